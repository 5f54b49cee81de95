/-! printed by wip/p35/gen_init.py: the constructors over the memory told by lists -/
theorem k_27 : Cond.initialized "PulseRemote$Text" ∈ GW := gw_of (List.mem_of_getElem? (i := 27) (by decide +kernel)) rfl
theorem k_39 : Cond.instanceMethod ⟨"PulseRemote", "<init>", "()V"⟩ ∈ GW := gw_of (List.mem_of_getElem? (i := 39) (by decide +kernel)) rfl
theorem k_40 : Cond.code yX11_init cX11_init 2 none ∈ GW := gw_of (List.mem_of_getElem? (i := 40) (by decide +kernel)) rfl
theorem k_41 : Cond.methodLink "PulseRemote" 3 ⟨"java/lang/Object", "<init>", "()V"⟩ ∈ GW := gw_of (List.mem_of_getElem? (i := 41) (by decide +kernel)) rfl
theorem k_42 : Cond.instanceMethod Lib.objectInit ∈ GW := gw_of (List.mem_of_getElem? (i := 42) (by decide +kernel)) rfl
theorem k_43 : Cond.code Lib.objectInit ⟨#[0xb1]⟩ 1 none ∈ GW := gw_of (List.mem_of_getElem? (i := 43) (by decide +kernel)) rfl
theorem k_44 : Cond.classLink "PulseRemote" 9 "PulseRemote$State" ∈ GW := gw_of (List.mem_of_getElem? (i := 44) (by decide +kernel)) rfl
theorem k_45 : Cond.instantiable "PulseRemote$State" 5 ∈ GW := gw_of (List.mem_of_getElem? (i := 45) (by decide +kernel)) rfl
theorem k_46 : Cond.methodLink "PulseRemote" 11 ⟨"PulseRemote$State", "<init>", "()V"⟩ ∈ GW := gw_of (List.mem_of_getElem? (i := 46) (by decide +kernel)) rfl
theorem k_47 : Cond.instanceMethod ⟨"PulseRemote$State", "<init>", "()V"⟩ ∈ GW := gw_of (List.mem_of_getElem? (i := 47) (by decide +kernel)) rfl
theorem k_48 : Cond.code yX7_init cX7_init 2 none ∈ GW := gw_of (List.mem_of_getElem? (i := 48) (by decide +kernel)) rfl
theorem k_49 : Cond.methodLink "PulseRemote$State" 3 ⟨"java/lang/Object", "<init>", "()V"⟩ ∈ GW := gw_of (List.mem_of_getElem? (i := 49) (by decide +kernel)) rfl
theorem k_50 : Cond.classLink "PulseRemote$State" 9 "PulseRemote$Table" ∈ GW := gw_of (List.mem_of_getElem? (i := 50) (by decide +kernel)) rfl
theorem k_51 : Cond.instantiable "PulseRemote$Table" 5 ∈ GW := gw_of (List.mem_of_getElem? (i := 51) (by decide +kernel)) rfl
theorem k_52 : Cond.methodLink "PulseRemote$State" 11 ⟨"PulseRemote$Table", "<init>", "()V"⟩ ∈ GW := gw_of (List.mem_of_getElem? (i := 52) (by decide +kernel)) rfl
theorem k_53 : Cond.instanceMethod ⟨"PulseRemote$Table", "<init>", "()V"⟩ ∈ GW := gw_of (List.mem_of_getElem? (i := 53) (by decide +kernel)) rfl
theorem k_54 : Cond.code yX8_init cX8_init 2 none ∈ GW := gw_of (List.mem_of_getElem? (i := 54) (by decide +kernel)) rfl
theorem k_55 : Cond.methodLink "PulseRemote$Table" 3 ⟨"java/lang/Object", "<init>", "()V"⟩ ∈ GW := gw_of (List.mem_of_getElem? (i := 55) (by decide +kernel)) rfl
theorem k_56 : Cond.classLink "PulseRemote$Table" 9 "PulseRemote$Protocol" ∈ GW := gw_of (List.mem_of_getElem? (i := 56) (by decide +kernel)) rfl
theorem k_58 : Cond.instantiable "PulseRemote$Protocol" 9 ∈ GW := gw_of (List.mem_of_getElem? (i := 58) (by decide +kernel)) rfl
theorem k_59 : Cond.methodLinkNest "PulseRemote$Table" 24 ⟨"PulseRemote$Protocol", "<init>", "()V"⟩ "PulseRemote" ∈ lw_tbl := List.mem_of_getElem? (i := 59) (by decide +kernel)
theorem k_60 : Cond.instanceMethod ⟨"PulseRemote$Protocol", "<init>", "()V"⟩ ∈ GW := gw_of (List.mem_of_getElem? (i := 60) (by decide +kernel)) rfl
theorem k_61 : Cond.code yX6_init cX6_init 1 none ∈ GW := gw_of (List.mem_of_getElem? (i := 61) (by decide +kernel)) rfl
theorem k_62 : Cond.methodLink "PulseRemote$Protocol" 3 ⟨"java/lang/Object", "<init>", "()V"⟩ ∈ GW := gw_of (List.mem_of_getElem? (i := 62) (by decide +kernel)) rfl
theorem k_109 : Cond.arrayClass .int ∈ GW := gw_of (List.mem_of_getElem? (i := 109) (by decide +kernel)) rfl
theorem k_129 : Cond.classLink "PulseRemote$State" 18 "PulseRemote$Train" ∈ GW := gw_of (List.mem_of_getElem? (i := 129) (by decide +kernel)) rfl
theorem k_131 : Cond.constant "PulseRemote$State" 28 (40000 : Int32) ∈ GW := gw_of (List.mem_of_getElem? (i := 131) (by decide +kernel)) rfl
theorem k_132 : Cond.instantiable "PulseRemote$Train" 2 ∈ GW := gw_of (List.mem_of_getElem? (i := 132) (by decide +kernel)) rfl
theorem k_133 : Cond.methodLinkNest "PulseRemote$State" 35 ⟨"PulseRemote$Train", "<init>", "()V"⟩ "PulseRemote" ∈ lw_tbl := List.mem_of_getElem? (i := 133) (by decide +kernel)
theorem k_134 : Cond.instanceMethod ⟨"PulseRemote$Train", "<init>", "()V"⟩ ∈ GW := gw_of (List.mem_of_getElem? (i := 134) (by decide +kernel)) rfl
theorem k_135 : Cond.code yX10_init cX10_init 1 none ∈ GW := gw_of (List.mem_of_getElem? (i := 135) (by decide +kernel)) rfl
theorem k_136 : Cond.methodLink "PulseRemote$Train" 3 ⟨"java/lang/Object", "<init>", "()V"⟩ ∈ GW := gw_of (List.mem_of_getElem? (i := 136) (by decide +kernel)) rfl
theorem k_173 : Cond.classLink "PulseRemote" 20 "PulseRemote$Text" ∈ GW := gw_of (List.mem_of_getElem? (i := 173) (by decide +kernel)) rfl
theorem k_174 : Cond.instantiable "PulseRemote$Text" 5 ∈ GW := gw_of (List.mem_of_getElem? (i := 174) (by decide +kernel)) rfl
theorem k_175 : Cond.methodLinkNest "PulseRemote" 22 ⟨"PulseRemote$Text", "<init>", "()V"⟩ "PulseRemote" ∈ lw_tbl := List.mem_of_getElem? (i := 175) (by decide +kernel)
theorem k_176 : Cond.instanceMethod ⟨"PulseRemote$Text", "<init>", "()V"⟩ ∈ GW := gw_of (List.mem_of_getElem? (i := 176) (by decide +kernel)) rfl
theorem k_177 : Cond.code yX9_init cX9_init 1 none ∈ GW := gw_of (List.mem_of_getElem? (i := 177) (by decide +kernel)) rfl
theorem k_178 : Cond.methodLink "PulseRemote$Text" 3 ⟨"java/lang/Object", "<init>", "()V"⟩ ∈ GW := gw_of (List.mem_of_getElem? (i := 178) (by decide +kernel)) rfl
theorem k_179 : Cond.fieldLink "PulseRemote$Text" 9 "PulseRemote$Text" "characters" "[C" ∈ GW := gw_of (List.mem_of_getElem? (i := 179) (by decide +kernel)) rfl
theorem k_192 : Cond.arrayClass .char ∈ GW := gw_of (List.mem_of_getElem? (i := 192) (by decide +kernel)) rfl
theorem k_193 : Cond.classLink "PulseRemote" 27 "PulseRemote$Table" ∈ GW := gw_of (List.mem_of_getElem? (i := 193) (by decide +kernel)) rfl
theorem k_194 : Cond.methodLink "PulseRemote" 29 ⟨"PulseRemote$Table", "<init>", "()V"⟩ ∈ GW := gw_of (List.mem_of_getElem? (i := 194) (by decide +kernel)) rfl
theorem k_195 : Cond.classLink "PulseRemote" 34 "PulseRemote$Train" ∈ GW := gw_of (List.mem_of_getElem? (i := 195) (by decide +kernel)) rfl
theorem k_196 : Cond.methodLinkNest "PulseRemote" 36 ⟨"PulseRemote$Train", "<init>", "()V"⟩ "PulseRemote" ∈ lw_tbl := List.mem_of_getElem? (i := 196) (by decide +kernel)
theorem k_197 : Cond.classLink "PulseRemote" 45 "PulseRemote$FrameList" ∈ GW := gw_of (List.mem_of_getElem? (i := 197) (by decide +kernel)) rfl
theorem k_198 : Cond.instantiable "PulseRemote$FrameList" 4 ∈ GW := gw_of (List.mem_of_getElem? (i := 198) (by decide +kernel)) rfl
theorem k_199 : Cond.methodLinkNest "PulseRemote" 47 ⟨"PulseRemote$FrameList", "<init>", "()V"⟩ "PulseRemote" ∈ lw_tbl := List.mem_of_getElem? (i := 199) (by decide +kernel)
theorem k_200 : Cond.instanceMethod ⟨"PulseRemote$FrameList", "<init>", "()V"⟩ ∈ GW := gw_of (List.mem_of_getElem? (i := 200) (by decide +kernel)) rfl
theorem k_201 : Cond.code yX3_init cX3_init 1 none ∈ GW := gw_of (List.mem_of_getElem? (i := 201) (by decide +kernel)) rfl
theorem k_202 : Cond.methodLink "PulseRemote$FrameList" 3 ⟨"java/lang/Object", "<init>", "()V"⟩ ∈ GW := gw_of (List.mem_of_getElem? (i := 202) (by decide +kernel)) rfl
theorem k_203 : Cond.classLink "PulseRemote$FrameList" 18 "PulseRemote$Train" ∈ GW := gw_of (List.mem_of_getElem? (i := 203) (by decide +kernel)) rfl
theorem k_204 : Cond.methodLinkNest "PulseRemote$FrameList" 20 ⟨"PulseRemote$Train", "<init>", "()V"⟩ "PulseRemote" ∈ lw_tbl := List.mem_of_getElem? (i := 204) (by decide +kernel)
theorem k_221 : Cond.classLink "PulseRemote" 52 "PulseRemote$Decoder" ∈ GW := gw_of (List.mem_of_getElem? (i := 221) (by decide +kernel)) rfl
theorem k_222 : Cond.instantiable "PulseRemote$Decoder" 6 ∈ GW := gw_of (List.mem_of_getElem? (i := 222) (by decide +kernel)) rfl
theorem k_223 : Cond.methodLinkNest "PulseRemote" 54 ⟨"PulseRemote$Decoder", "<init>", "()V"⟩ "PulseRemote" ∈ lw_tbl := List.mem_of_getElem? (i := 223) (by decide +kernel)
theorem k_224 : Cond.instanceMethod ⟨"PulseRemote$Decoder", "<init>", "()V"⟩ ∈ GW := gw_of (List.mem_of_getElem? (i := 224) (by decide +kernel)) rfl
theorem k_225 : Cond.code yX2_init cX2_init 1 none ∈ GW := gw_of (List.mem_of_getElem? (i := 225) (by decide +kernel)) rfl
theorem k_226 : Cond.methodLink "PulseRemote$Decoder" 3 ⟨"java/lang/Object", "<init>", "()V"⟩ ∈ GW := gw_of (List.mem_of_getElem? (i := 226) (by decide +kernel)) rfl
theorem k_250 : Cond.arrayClass .long ∈ GW := gw_of (List.mem_of_getElem? (i := 250) (by decide +kernel)) rfl
theorem k_251 : Cond.classLink "PulseRemote" 59 "PulseRemote$PressList" ∈ GW := gw_of (List.mem_of_getElem? (i := 251) (by decide +kernel)) rfl
theorem k_252 : Cond.instantiable "PulseRemote$PressList" 8 ∈ GW := gw_of (List.mem_of_getElem? (i := 252) (by decide +kernel)) rfl
theorem k_253 : Cond.methodLinkNest "PulseRemote" 61 ⟨"PulseRemote$PressList", "<init>", "()V"⟩ "PulseRemote" ∈ lw_tbl := List.mem_of_getElem? (i := 253) (by decide +kernel)
theorem k_254 : Cond.instanceMethod ⟨"PulseRemote$PressList", "<init>", "()V"⟩ ∈ GW := gw_of (List.mem_of_getElem? (i := 254) (by decide +kernel)) rfl
theorem k_255 : Cond.code yX5_init cX5_init 1 none ∈ GW := gw_of (List.mem_of_getElem? (i := 255) (by decide +kernel)) rfl
theorem k_256 : Cond.methodLink "PulseRemote$PressList" 3 ⟨"java/lang/Object", "<init>", "()V"⟩ ∈ GW := gw_of (List.mem_of_getElem? (i := 256) (by decide +kernel)) rfl
theorem k_287 : Cond.classLink "PulseRemote" 66 "PulseRemote$Learner" ∈ GW := gw_of (List.mem_of_getElem? (i := 287) (by decide +kernel)) rfl
theorem k_288 : Cond.instantiable "PulseRemote$Learner" 10 ∈ GW := gw_of (List.mem_of_getElem? (i := 288) (by decide +kernel)) rfl
theorem k_289 : Cond.methodLinkNest "PulseRemote" 68 ⟨"PulseRemote$Learner", "<init>", "()V"⟩ "PulseRemote" ∈ lw_tbl := List.mem_of_getElem? (i := 289) (by decide +kernel)
theorem k_290 : Cond.instanceMethod ⟨"PulseRemote$Learner", "<init>", "()V"⟩ ∈ GW := gw_of (List.mem_of_getElem? (i := 290) (by decide +kernel)) rfl
theorem k_291 : Cond.code yX4_init cX4_init 1 none ∈ GW := gw_of (List.mem_of_getElem? (i := 291) (by decide +kernel)) rfl
theorem k_292 : Cond.methodLink "PulseRemote$Learner" 3 ⟨"java/lang/Object", "<init>", "()V"⟩ ∈ GW := gw_of (List.mem_of_getElem? (i := 292) (by decide +kernel)) rfl
theorem k_293 : Cond.classLink "PulseRemote$Learner" 9 "PulseRemote$Clusters" ∈ GW := gw_of (List.mem_of_getElem? (i := 293) (by decide +kernel)) rfl
theorem k_294 : Cond.instantiable "PulseRemote$Clusters" 5 ∈ GW := gw_of (List.mem_of_getElem? (i := 294) (by decide +kernel)) rfl
theorem k_295 : Cond.methodLinkNest "PulseRemote$Learner" 11 ⟨"PulseRemote$Clusters", "<init>", "()V"⟩ "PulseRemote" ∈ lw_tbl := List.mem_of_getElem? (i := 295) (by decide +kernel)
theorem k_296 : Cond.instanceMethod ⟨"PulseRemote$Clusters", "<init>", "()V"⟩ ∈ GW := gw_of (List.mem_of_getElem? (i := 296) (by decide +kernel)) rfl
theorem k_297 : Cond.code yX0_init cX0_init 1 none ∈ GW := gw_of (List.mem_of_getElem? (i := 297) (by decide +kernel)) rfl
theorem k_298 : Cond.methodLink "PulseRemote$Clusters" 3 ⟨"java/lang/Object", "<init>", "()V"⟩ ∈ GW := gw_of (List.mem_of_getElem? (i := 298) (by decide +kernel)) rfl
theorem k_356 : Cond.classLink "PulseRemote" 73 "PulseRemote$Collision" ∈ GW := gw_of (List.mem_of_getElem? (i := 356) (by decide +kernel)) rfl
theorem k_357 : Cond.instantiable "PulseRemote$Collision" 10 ∈ GW := gw_of (List.mem_of_getElem? (i := 357) (by decide +kernel)) rfl
theorem k_358 : Cond.methodLinkNest "PulseRemote" 75 ⟨"PulseRemote$Collision", "<init>", "()V"⟩ "PulseRemote" ∈ lw_tbl := List.mem_of_getElem? (i := 358) (by decide +kernel)
theorem k_359 : Cond.instanceMethod ⟨"PulseRemote$Collision", "<init>", "()V"⟩ ∈ GW := gw_of (List.mem_of_getElem? (i := 359) (by decide +kernel)) rfl
theorem k_360 : Cond.code yX1_init cX1_init 1 none ∈ GW := gw_of (List.mem_of_getElem? (i := 360) (by decide +kernel)) rfl
theorem k_361 : Cond.methodLink "PulseRemote$Collision" 3 ⟨"java/lang/Object", "<init>", "()V"⟩ ∈ GW := gw_of (List.mem_of_getElem? (i := 361) (by decide +kernel)) rfl
theorem k_362 : Cond.classLink "PulseRemote$Collision" 9 "PulseRemote$Train" ∈ GW := gw_of (List.mem_of_getElem? (i := 362) (by decide +kernel)) rfl
theorem k_363 : Cond.methodLinkNest "PulseRemote$Collision" 11 ⟨"PulseRemote$Train", "<init>", "()V"⟩ "PulseRemote" ∈ lw_tbl := List.mem_of_getElem? (i := 363) (by decide +kernel)
theorem k_399 : Cond.fieldLink "PulseRemote" 30 "PulseRemote" "draft" "LPulseRemote$Table;" ∈ GW := gw_of (List.mem_of_getElem? (i := 399) (by decide +kernel)) rfl
theorem k_401 : Cond.fieldLink "PulseRemote" 41 "PulseRemote" "buttonFrames" "[LPulseRemote$Train;" ∈ GW := gw_of (List.mem_of_getElem? (i := 401) (by decide +kernel)) rfl
def rmX6_init : Room := { frames := 1, cells := 0, slots := 0, locals := 20 }
theorem cmX6_init : CM yX6_init cX6_init 1 none 0 := ⟨k_61, k_25, by decide +kernel⟩
theorem hiX6_init : Cond.instanceMethod yX6_init ∈ GW := k_60
def rmX8_init : Room := { frames := 2, cells := 9, slots := 84, locals := 40 }
theorem cmX8_init : CM yX8_init cX8_init 2 none 0 := ⟨k_54, k_24, by decide +kernel⟩
theorem hiX8_init : Cond.instanceMethod yX8_init ∈ GW := k_53
def rmX10_init : Room := { frames := 1, cells := 1, slots := 200, locals := 20 }
theorem cmX10_init : CM yX10_init cX10_init 1 none 0 := ⟨k_135, k_26, by decide +kernel⟩
theorem hiX10_init : Cond.instanceMethod yX10_init ∈ GW := k_134
def rmX7_init : Room := { frames := 3, cells := 17, slots := 698, locals := 61 }
theorem cmX7_init : CM yX7_init cX7_init 2 none 0 := ⟨k_48, k_23, by decide +kernel⟩
theorem hiX7_init : Cond.instanceMethod yX7_init ∈ GW := k_47
def rmX9_init : Room := { frames := 1, cells := 1, slots := 160, locals := 20 }
theorem cmX9_init : CM yX9_init cX9_init 1 none 0 := ⟨k_177, k_27, by decide +kernel⟩
theorem hiX9_init : Cond.instanceMethod yX9_init ∈ GW := k_176
def rmX3_init : Room := { frames := 2, cells := 4, slots := 402, locals := 40 }
theorem cmX3_init : CM yX3_init cX3_init 1 none 0 := ⟨k_201, k_28, by decide +kernel⟩
theorem hiX3_init : Cond.instanceMethod yX3_init ∈ GW := k_200
def rmX2_init : Room := { frames := 1, cells := 2, slots := 52, locals := 20 }
theorem cmX2_init : CM yX2_init cX2_init 1 none 0 := ⟨k_225, k_29, by decide +kernel⟩
theorem hiX2_init : Cond.instanceMethod yX2_init ∈ GW := k_224
def rmX5_init : Room := { frames := 1, cells := 3, slots := 90, locals := 20 }
theorem cmX5_init : CM yX5_init cX5_init 1 none 0 := ⟨k_255, k_30, by decide +kernel⟩
theorem hiX5_init : Cond.instanceMethod yX5_init ∈ GW := k_254
def rmX0_init : Room := { frames := 1, cells := 1, slots := 200, locals := 20 }
theorem cmX0_init : CM yX0_init cX0_init 1 none 0 := ⟨k_297, k_32, by decide +kernel⟩
theorem hiX0_init : Cond.instanceMethod yX0_init ∈ GW := k_296
def rmX4_init : Room := { frames := 2, cells := 4, slots := 410, locals := 40 }
theorem cmX4_init : CM yX4_init cX4_init 1 none 0 := ⟨k_291, k_31, by decide +kernel⟩
theorem hiX4_init : Cond.instanceMethod yX4_init ∈ GW := k_290
def rmX1_init : Room := { frames := 2, cells := 4, slots := 404, locals := 40 }
theorem cmX1_init : CM yX1_init cX1_init 1 none 0 := ⟨k_360, k_33, by decide +kernel⟩
theorem hiX1_init : Cond.instanceMethod yX1_init ∈ GW := k_359
def rmX11_init : Room := { frames := 4, cells := 188, slots := 9215, locals := 82 }
theorem cmX11_init : CM yX11_init cX11_init 2 none 0 := ⟨k_40, k_22, by decide +kernel⟩
theorem hiX11_init : Cond.instanceMethod yX11_init ∈ GW := k_39
def g_X6_init (l0 : Nat) (s : LMm) : Option LMm :=
  some s
set_option maxHeartbeats 4000000 in
set_option maxRecDepth 100000 in
theorem t_X6_init {X : BX} {D : va_G} {cy : Nat → ClassId} {b : Nat} (hB : BB X D cy b yX6_init cX6_init 1 none rmX6_init) {l0 : Nat} {s z : LMm} (hf : g_X6_init l0 s = some z) : WW X D cy b none (mkM z) 1 0 0 0 [(0, .ref (b + l0))] [] (mkM s) := by
  unfold g_X6_init at hf
  refine r_aload_n hB 0 rfl (by decide +kernel : decode cX6_init 0 = .ok (.aload_n 0, 1)) rfl ?_
  refine r_objInit hB (own := "PulseRemote$Protocol") rfl k_62 k_42 k_43 (by decide +kernel : decode cX6_init 1 = .ok (.invokespecial 3, 3)) (by decide) (Nat.le_of_ble_eq_true rfl) ?_
  obtain rfl := Option.some.inj hf
  exact r_vret hB (by decide +kernel : decode cX6_init 4 = .ok (.return_, 1))
theorem m_X6_init (l : Launch) (D : va_G) (cy : Nat → ClassId) (b : Nat) {l0 : Nat} {s z : LMm} (hf : g_X6_init l0 s = some z) : Met l yX6_init (.code yX6_init cX6_init 1 none :: GW) rmX6_init (Pw D cy b [.ref (b + l0)] (mkM s)) (Qw D cy b none (mkM z)) rmX6_init.cells rmX6_init.slots (fun q => b ≤ q) :=
  met_of (by decide) (Nat.le_of_ble_eq_true rfl) (fun X hB _ => t_X6_init hB hf)
def g_X8_init (l0 : Nat) (s : LMm) : Option LMm :=
  (nA1 s 18 6).bind fun x5 =>
  (pR1 x5.2 8 l0 0 x5.1).bind fun m6 =>
  (nA1 m6 15 12).bind fun x9 =>
  (pR1 x9.2 8 l0 2 x9.1).bind fun m10 =>
  (nA1 m10 15 12).bind fun x13 =>
  (pR1 x13.2 8 l0 3 x13.1).bind fun m14 =>
  (gR1 m14 8 l0 0).bind fun x21 =>
  (nO1 m14 6).bind fun x23 =>
  (g_X6_init x23.1 x23.2).bind fun z25 =>
  (sR1 z25 18 6 x21 0 x23.1).bind fun m26 =>
  (gR1 m26 8 l0 0).bind fun x33 =>
  (nO1 m26 6).bind fun x35 =>
  (g_X6_init x35.1 x35.2).bind fun z37 =>
  (sR1 z37 18 6 x33 1 x35.1).bind fun m38 =>
  (gR1 m38 8 l0 0).bind fun x45 =>
  (nO1 m38 6).bind fun x47 =>
  (g_X6_init x47.1 x47.2).bind fun z49 =>
  (sR1 z49 18 6 x45 2 x47.1).bind fun m50 =>
  (gR1 m50 8 l0 0).bind fun x57 =>
  (nO1 m50 6).bind fun x59 =>
  (g_X6_init x59.1 x59.2).bind fun z61 =>
  (sR1 z61 18 6 x57 3 x59.1).bind fun m62 =>
  (gR1 m62 8 l0 0).bind fun x69 =>
  (nO1 m62 6).bind fun x71 =>
  (g_X6_init x71.1 x71.2).bind fun z73 =>
  (sR1 z73 18 6 x69 4 x71.1).bind fun m74 =>
  (gR1 m74 8 l0 0).bind fun x81 =>
  (nO1 m74 6).bind fun x83 =>
  (g_X6_init x83.1 x83.2).bind fun z85 =>
  (sR1 z85 18 6 x81 5 x83.1).bind fun m86 =>
  some m86
set_option maxHeartbeats 4000000 in
set_option maxRecDepth 100000 in
theorem t_X8_init {X : BX} {D : va_G} {cy : Nat → ClassId} {b : Nat} (hB : BB X D cy b yX8_init cX8_init 2 none rmX8_init) {l0 : Nat} {s z : LMm} (hf : g_X8_init l0 s = some z) : WW X D cy b none (mkM z) 2 9 84 0 [(0, .ref (b + l0))] [] (mkM s) := by
  unfold g_X8_init at hf
  refine r_aload_n hB 0 rfl (by decide +kernel : decode cX8_init 0 = .ok (.aload_n 0, 1)) rfl ?_
  refine r_objInit hB (own := "PulseRemote$Table") rfl k_55 k_42 k_43 (by decide +kernel : decode cX8_init 1 = .ok (.invokespecial 3, 3)) (by decide) (Nat.le_of_ble_eq_true rfl) ?_
  refine r_aload_n hB 0 rfl (by decide +kernel : decode cX8_init 4 = .ok (.aload_n 0, 1)) rfl ?_
  refine r_bipush hB (v := 6) (by decide +kernel : decode cX8_init 5 = .ok (.bipush 6, 2)) (by decide +kernel) ?_
  refine WW.mono (kc := 8 + 1) (ks := 78 + 6) (Nat.le_of_ble_eq_true rfl) (Nat.le_of_ble_eq_true rfl) (q_newR hB (t := 18) (C := RX6) (Or.inl ⟨rfl, rfl⟩) (own := "PulseRemote$Table") rfl k_56 (by decide +kernel) (by decide +kernel) (Nat.le_of_ble_eq_true rfl) (by decide +kernel : decode cX8_init 7 = .ok (.anewarray 9, 3)) hf (fun x5 hf => ?_))
  refine q_pR hB cf8 0 (by decide) (own := "PulseRemote$Table") rfl (Or.inl k_110) (Or.inr ⟨rfl, rfl, rfl, k_110⟩) (by decide +kernel) (by decide +kernel : decode cX8_init 10 = .ok (.putfield 11, 3)) hf (fun m6 hf => ?_)
  refine r_aload_n hB 0 rfl (by decide +kernel : decode cX8_init 13 = .ok (.aload_n 0, 1)) rfl ?_
  refine r_bipush hB (v := 12) (by decide +kernel : decode cX8_init 14 = .ok (.bipush 12, 2)) (by decide +kernel) ?_
  refine WW.mono (kc := 7 + 1) (ks := 66 + 12) (Nat.le_of_ble_eq_true rfl) (Nat.le_of_ble_eq_true rfl) (q_newA hB (t := 15) (at_ := .int) (Or.inr (Or.inr (Or.inl ⟨rfl, rfl⟩))) k_109 (by decide +kernel) (by decide +kernel) (Nat.le_of_ble_eq_true rfl) (by decide +kernel : decode cX8_init 16 = .ok (.newarray .int, 2)) hf (fun x9 hf => ?_))
  refine q_pR hB cf8 2 (by decide) (own := "PulseRemote$Table") rfl (Or.inl k_114) (Or.inr ⟨rfl, rfl, rfl, k_114⟩) (by decide +kernel) (by decide +kernel : decode cX8_init 18 = .ok (.putfield 17, 3)) hf (fun m10 hf => ?_)
  refine r_aload_n hB 0 rfl (by decide +kernel : decode cX8_init 21 = .ok (.aload_n 0, 1)) rfl ?_
  refine r_bipush hB (v := 12) (by decide +kernel : decode cX8_init 22 = .ok (.bipush 12, 2)) (by decide +kernel) ?_
  refine WW.mono (kc := 6 + 1) (ks := 54 + 12) (Nat.le_of_ble_eq_true rfl) (Nat.le_of_ble_eq_true rfl) (q_newA hB (t := 15) (at_ := .int) (Or.inr (Or.inr (Or.inl ⟨rfl, rfl⟩))) k_109 (by decide +kernel) (by decide +kernel) (Nat.le_of_ble_eq_true rfl) (by decide +kernel : decode cX8_init 24 = .ok (.newarray .int, 2)) hf (fun x13 hf => ?_))
  refine q_pR hB cf8 3 (by decide) (own := "PulseRemote$Table") rfl (Or.inl k_115) (Or.inr ⟨rfl, rfl, rfl, k_115⟩) (by decide +kernel) (by decide +kernel : decode cX8_init 26 = .ok (.putfield 21, 3)) hf (fun m14 hf => ?_)
  refine r_iconst hB (v := 0) (by decide +kernel : decode cX8_init 29 = .ok (.iconst 0, 1)) (by decide +kernel) ?_
  refine r_istore_n hB (by decide +kernel : decode cX8_init 30 = .ok (.istore_n 1, 1)) rfl (by decide) rfl ?_
  refine ww_lv (lv' := [(1, .int 0), (0, .ref (b + l0))]) rfl ?_
  refine r_iload_n hB 0 rfl (by decide +kernel : decode cX8_init 31 = .ok (.iload_n 1, 1)) rfl ?_
  refine r_bipush hB (v := 6) (by decide +kernel : decode cX8_init 32 = .ok (.bipush 6, 2)) (by decide +kernel) ?_
  refine r_icmp_ge hB (tgt := 56) (by decide +kernel : decode cX8_init 34 = .ok (.if_icmp .ge 22, 3)) (by decide) (show (if (6 : Int32) ≤ 0 then (none : Option Unit) else some ()) = some () by decide +kernel) (fun _ h => nomatch h) (fun _ _ => ?_)
  refine r_aload_n hB 1 rfl (by decide +kernel : decode cX8_init 37 = .ok (.aload_n 0, 1)) rfl ?_
  refine q_gR hB cf8 0 (by decide) (own := "PulseRemote$Table") rfl (Or.inl k_110) (by decide +kernel) (by decide +kernel : decode cX8_init 38 = .ok (.getfield 11, 3)) hf (fun x21 hf => ?_)
  refine r_iload_n hB 0 rfl (by decide +kernel : decode cX8_init 41 = .ok (.iload_n 1, 1)) rfl ?_
  refine WW.mono (kc := 5 + 1) (ks := 45 + 9) (Nat.le_of_ble_eq_true rfl) (Nat.le_of_ble_eq_true rfl) (q_new hB cf6 (by decide) (own := "PulseRemote$Table") rfl k_56 k_58 k_25 (by decide +kernel : decode cX8_init 42 = .ok (.new 9, 3)) hf (fun x23 hf => ?_))
  refine r_dup hB (by decide +kernel : decode cX8_init 45 = .ok (.dup, 1)) rfl ?_
  refine WW.mono (kc := 5 + rmX6_init.cells) (ks := 45 + rmX6_init.slots) (Nat.le_of_ble_eq_true rfl) (Nat.le_of_ble_eq_true rfl) (q_cI hB [] [.ref (b + x23.1), .int 0, .ref (b + x21)] (own := "PulseRemote$Table") rfl cmX6_init hiX6_init rfl (Or.inr ⟨_, k_59⟩) (by decide) rfl (Nat.le_of_ble_eq_true rfl) (by decide +kernel : decode cX8_init 46 = .ok (.invokespecial 24, 3)) (fun z hz => m_X6_init _ _ _ _ hz) rfl hf (fun z25 hf => ?_))
  refine q_aast hB (t := 18) (C := RX6) cf6 (Or.inl ⟨rfl, rfl⟩) (by decide +kernel : decode cX8_init 49 = .ok (.aastore, 1)) hf (fun m26 hf => ?_)
  refine r_iinc hB (v := 1) 0 rfl (by decide +kernel : decode cX8_init 50 = .ok (.iinc 1 1, 3)) (by decide +kernel) (by decide) rfl ?_
  refine ww_lv (lv' := [(1, .int 1), (0, .ref (b + l0))]) rfl ?_
  refine r_goto hB (tgt := 31) (by decide +kernel : decode cX8_init 53 = .ok (.goto (-22), 3)) (by decide) ?_
  refine r_iload_n hB 0 rfl (by decide +kernel : decode cX8_init 31 = .ok (.iload_n 1, 1)) rfl ?_
  refine r_bipush hB (v := 6) (by decide +kernel : decode cX8_init 32 = .ok (.bipush 6, 2)) (by decide +kernel) ?_
  refine r_icmp_ge hB (tgt := 56) (by decide +kernel : decode cX8_init 34 = .ok (.if_icmp .ge 22, 3)) (by decide) (show (if (6 : Int32) ≤ 1 then (none : Option Unit) else some ()) = some () by decide +kernel) (fun _ h => nomatch h) (fun _ _ => ?_)
  refine r_aload_n hB 1 rfl (by decide +kernel : decode cX8_init 37 = .ok (.aload_n 0, 1)) rfl ?_
  refine q_gR hB cf8 0 (by decide) (own := "PulseRemote$Table") rfl (Or.inl k_110) (by decide +kernel) (by decide +kernel : decode cX8_init 38 = .ok (.getfield 11, 3)) hf (fun x33 hf => ?_)
  refine r_iload_n hB 0 rfl (by decide +kernel : decode cX8_init 41 = .ok (.iload_n 1, 1)) rfl ?_
  refine WW.mono (kc := 4 + 1) (ks := 36 + 9) (Nat.le_of_ble_eq_true rfl) (Nat.le_of_ble_eq_true rfl) (q_new hB cf6 (by decide) (own := "PulseRemote$Table") rfl k_56 k_58 k_25 (by decide +kernel : decode cX8_init 42 = .ok (.new 9, 3)) hf (fun x35 hf => ?_))
  refine r_dup hB (by decide +kernel : decode cX8_init 45 = .ok (.dup, 1)) rfl ?_
  refine WW.mono (kc := 4 + rmX6_init.cells) (ks := 36 + rmX6_init.slots) (Nat.le_of_ble_eq_true rfl) (Nat.le_of_ble_eq_true rfl) (q_cI hB [] [.ref (b + x35.1), .int 1, .ref (b + x33)] (own := "PulseRemote$Table") rfl cmX6_init hiX6_init rfl (Or.inr ⟨_, k_59⟩) (by decide) rfl (Nat.le_of_ble_eq_true rfl) (by decide +kernel : decode cX8_init 46 = .ok (.invokespecial 24, 3)) (fun z hz => m_X6_init _ _ _ _ hz) rfl hf (fun z37 hf => ?_))
  refine q_aast hB (t := 18) (C := RX6) cf6 (Or.inl ⟨rfl, rfl⟩) (by decide +kernel : decode cX8_init 49 = .ok (.aastore, 1)) hf (fun m38 hf => ?_)
  refine r_iinc hB (v := 2) 0 rfl (by decide +kernel : decode cX8_init 50 = .ok (.iinc 1 1, 3)) (by decide +kernel) (by decide) rfl ?_
  refine ww_lv (lv' := [(1, .int 2), (0, .ref (b + l0))]) rfl ?_
  refine r_goto hB (tgt := 31) (by decide +kernel : decode cX8_init 53 = .ok (.goto (-22), 3)) (by decide) ?_
  refine r_iload_n hB 0 rfl (by decide +kernel : decode cX8_init 31 = .ok (.iload_n 1, 1)) rfl ?_
  refine r_bipush hB (v := 6) (by decide +kernel : decode cX8_init 32 = .ok (.bipush 6, 2)) (by decide +kernel) ?_
  refine r_icmp_ge hB (tgt := 56) (by decide +kernel : decode cX8_init 34 = .ok (.if_icmp .ge 22, 3)) (by decide) (show (if (6 : Int32) ≤ 2 then (none : Option Unit) else some ()) = some () by decide +kernel) (fun _ h => nomatch h) (fun _ _ => ?_)
  refine r_aload_n hB 1 rfl (by decide +kernel : decode cX8_init 37 = .ok (.aload_n 0, 1)) rfl ?_
  refine q_gR hB cf8 0 (by decide) (own := "PulseRemote$Table") rfl (Or.inl k_110) (by decide +kernel) (by decide +kernel : decode cX8_init 38 = .ok (.getfield 11, 3)) hf (fun x45 hf => ?_)
  refine r_iload_n hB 0 rfl (by decide +kernel : decode cX8_init 41 = .ok (.iload_n 1, 1)) rfl ?_
  refine WW.mono (kc := 3 + 1) (ks := 27 + 9) (Nat.le_of_ble_eq_true rfl) (Nat.le_of_ble_eq_true rfl) (q_new hB cf6 (by decide) (own := "PulseRemote$Table") rfl k_56 k_58 k_25 (by decide +kernel : decode cX8_init 42 = .ok (.new 9, 3)) hf (fun x47 hf => ?_))
  refine r_dup hB (by decide +kernel : decode cX8_init 45 = .ok (.dup, 1)) rfl ?_
  refine WW.mono (kc := 3 + rmX6_init.cells) (ks := 27 + rmX6_init.slots) (Nat.le_of_ble_eq_true rfl) (Nat.le_of_ble_eq_true rfl) (q_cI hB [] [.ref (b + x47.1), .int 2, .ref (b + x45)] (own := "PulseRemote$Table") rfl cmX6_init hiX6_init rfl (Or.inr ⟨_, k_59⟩) (by decide) rfl (Nat.le_of_ble_eq_true rfl) (by decide +kernel : decode cX8_init 46 = .ok (.invokespecial 24, 3)) (fun z hz => m_X6_init _ _ _ _ hz) rfl hf (fun z49 hf => ?_))
  refine q_aast hB (t := 18) (C := RX6) cf6 (Or.inl ⟨rfl, rfl⟩) (by decide +kernel : decode cX8_init 49 = .ok (.aastore, 1)) hf (fun m50 hf => ?_)
  refine r_iinc hB (v := 3) 0 rfl (by decide +kernel : decode cX8_init 50 = .ok (.iinc 1 1, 3)) (by decide +kernel) (by decide) rfl ?_
  refine ww_lv (lv' := [(1, .int 3), (0, .ref (b + l0))]) rfl ?_
  refine r_goto hB (tgt := 31) (by decide +kernel : decode cX8_init 53 = .ok (.goto (-22), 3)) (by decide) ?_
  refine r_iload_n hB 0 rfl (by decide +kernel : decode cX8_init 31 = .ok (.iload_n 1, 1)) rfl ?_
  refine r_bipush hB (v := 6) (by decide +kernel : decode cX8_init 32 = .ok (.bipush 6, 2)) (by decide +kernel) ?_
  refine r_icmp_ge hB (tgt := 56) (by decide +kernel : decode cX8_init 34 = .ok (.if_icmp .ge 22, 3)) (by decide) (show (if (6 : Int32) ≤ 3 then (none : Option Unit) else some ()) = some () by decide +kernel) (fun _ h => nomatch h) (fun _ _ => ?_)
  refine r_aload_n hB 1 rfl (by decide +kernel : decode cX8_init 37 = .ok (.aload_n 0, 1)) rfl ?_
  refine q_gR hB cf8 0 (by decide) (own := "PulseRemote$Table") rfl (Or.inl k_110) (by decide +kernel) (by decide +kernel : decode cX8_init 38 = .ok (.getfield 11, 3)) hf (fun x57 hf => ?_)
  refine r_iload_n hB 0 rfl (by decide +kernel : decode cX8_init 41 = .ok (.iload_n 1, 1)) rfl ?_
  refine WW.mono (kc := 2 + 1) (ks := 18 + 9) (Nat.le_of_ble_eq_true rfl) (Nat.le_of_ble_eq_true rfl) (q_new hB cf6 (by decide) (own := "PulseRemote$Table") rfl k_56 k_58 k_25 (by decide +kernel : decode cX8_init 42 = .ok (.new 9, 3)) hf (fun x59 hf => ?_))
  refine r_dup hB (by decide +kernel : decode cX8_init 45 = .ok (.dup, 1)) rfl ?_
  refine WW.mono (kc := 2 + rmX6_init.cells) (ks := 18 + rmX6_init.slots) (Nat.le_of_ble_eq_true rfl) (Nat.le_of_ble_eq_true rfl) (q_cI hB [] [.ref (b + x59.1), .int 3, .ref (b + x57)] (own := "PulseRemote$Table") rfl cmX6_init hiX6_init rfl (Or.inr ⟨_, k_59⟩) (by decide) rfl (Nat.le_of_ble_eq_true rfl) (by decide +kernel : decode cX8_init 46 = .ok (.invokespecial 24, 3)) (fun z hz => m_X6_init _ _ _ _ hz) rfl hf (fun z61 hf => ?_))
  refine q_aast hB (t := 18) (C := RX6) cf6 (Or.inl ⟨rfl, rfl⟩) (by decide +kernel : decode cX8_init 49 = .ok (.aastore, 1)) hf (fun m62 hf => ?_)
  refine r_iinc hB (v := 4) 0 rfl (by decide +kernel : decode cX8_init 50 = .ok (.iinc 1 1, 3)) (by decide +kernel) (by decide) rfl ?_
  refine ww_lv (lv' := [(1, .int 4), (0, .ref (b + l0))]) rfl ?_
  refine r_goto hB (tgt := 31) (by decide +kernel : decode cX8_init 53 = .ok (.goto (-22), 3)) (by decide) ?_
  refine r_iload_n hB 0 rfl (by decide +kernel : decode cX8_init 31 = .ok (.iload_n 1, 1)) rfl ?_
  refine r_bipush hB (v := 6) (by decide +kernel : decode cX8_init 32 = .ok (.bipush 6, 2)) (by decide +kernel) ?_
  refine r_icmp_ge hB (tgt := 56) (by decide +kernel : decode cX8_init 34 = .ok (.if_icmp .ge 22, 3)) (by decide) (show (if (6 : Int32) ≤ 4 then (none : Option Unit) else some ()) = some () by decide +kernel) (fun _ h => nomatch h) (fun _ _ => ?_)
  refine r_aload_n hB 1 rfl (by decide +kernel : decode cX8_init 37 = .ok (.aload_n 0, 1)) rfl ?_
  refine q_gR hB cf8 0 (by decide) (own := "PulseRemote$Table") rfl (Or.inl k_110) (by decide +kernel) (by decide +kernel : decode cX8_init 38 = .ok (.getfield 11, 3)) hf (fun x69 hf => ?_)
  refine r_iload_n hB 0 rfl (by decide +kernel : decode cX8_init 41 = .ok (.iload_n 1, 1)) rfl ?_
  refine WW.mono (kc := 1 + 1) (ks := 9 + 9) (Nat.le_of_ble_eq_true rfl) (Nat.le_of_ble_eq_true rfl) (q_new hB cf6 (by decide) (own := "PulseRemote$Table") rfl k_56 k_58 k_25 (by decide +kernel : decode cX8_init 42 = .ok (.new 9, 3)) hf (fun x71 hf => ?_))
  refine r_dup hB (by decide +kernel : decode cX8_init 45 = .ok (.dup, 1)) rfl ?_
  refine WW.mono (kc := 1 + rmX6_init.cells) (ks := 9 + rmX6_init.slots) (Nat.le_of_ble_eq_true rfl) (Nat.le_of_ble_eq_true rfl) (q_cI hB [] [.ref (b + x71.1), .int 4, .ref (b + x69)] (own := "PulseRemote$Table") rfl cmX6_init hiX6_init rfl (Or.inr ⟨_, k_59⟩) (by decide) rfl (Nat.le_of_ble_eq_true rfl) (by decide +kernel : decode cX8_init 46 = .ok (.invokespecial 24, 3)) (fun z hz => m_X6_init _ _ _ _ hz) rfl hf (fun z73 hf => ?_))
  refine q_aast hB (t := 18) (C := RX6) cf6 (Or.inl ⟨rfl, rfl⟩) (by decide +kernel : decode cX8_init 49 = .ok (.aastore, 1)) hf (fun m74 hf => ?_)
  refine r_iinc hB (v := 5) 0 rfl (by decide +kernel : decode cX8_init 50 = .ok (.iinc 1 1, 3)) (by decide +kernel) (by decide) rfl ?_
  refine ww_lv (lv' := [(1, .int 5), (0, .ref (b + l0))]) rfl ?_
  refine r_goto hB (tgt := 31) (by decide +kernel : decode cX8_init 53 = .ok (.goto (-22), 3)) (by decide) ?_
  refine r_iload_n hB 0 rfl (by decide +kernel : decode cX8_init 31 = .ok (.iload_n 1, 1)) rfl ?_
  refine r_bipush hB (v := 6) (by decide +kernel : decode cX8_init 32 = .ok (.bipush 6, 2)) (by decide +kernel) ?_
  refine r_icmp_ge hB (tgt := 56) (by decide +kernel : decode cX8_init 34 = .ok (.if_icmp .ge 22, 3)) (by decide) (show (if (6 : Int32) ≤ 5 then (none : Option Unit) else some ()) = some () by decide +kernel) (fun _ h => nomatch h) (fun _ _ => ?_)
  refine r_aload_n hB 1 rfl (by decide +kernel : decode cX8_init 37 = .ok (.aload_n 0, 1)) rfl ?_
  refine q_gR hB cf8 0 (by decide) (own := "PulseRemote$Table") rfl (Or.inl k_110) (by decide +kernel) (by decide +kernel : decode cX8_init 38 = .ok (.getfield 11, 3)) hf (fun x81 hf => ?_)
  refine r_iload_n hB 0 rfl (by decide +kernel : decode cX8_init 41 = .ok (.iload_n 1, 1)) rfl ?_
  refine WW.mono (kc := 0 + 1) (ks := 0 + 9) (Nat.le_of_ble_eq_true rfl) (Nat.le_of_ble_eq_true rfl) (q_new hB cf6 (by decide) (own := "PulseRemote$Table") rfl k_56 k_58 k_25 (by decide +kernel : decode cX8_init 42 = .ok (.new 9, 3)) hf (fun x83 hf => ?_))
  refine r_dup hB (by decide +kernel : decode cX8_init 45 = .ok (.dup, 1)) rfl ?_
  refine WW.mono (kc := 0 + rmX6_init.cells) (ks := 0 + rmX6_init.slots) (Nat.le_of_ble_eq_true rfl) (Nat.le_of_ble_eq_true rfl) (q_cI hB [] [.ref (b + x83.1), .int 5, .ref (b + x81)] (own := "PulseRemote$Table") rfl cmX6_init hiX6_init rfl (Or.inr ⟨_, k_59⟩) (by decide) rfl (Nat.le_of_ble_eq_true rfl) (by decide +kernel : decode cX8_init 46 = .ok (.invokespecial 24, 3)) (fun z hz => m_X6_init _ _ _ _ hz) rfl hf (fun z85 hf => ?_))
  refine q_aast hB (t := 18) (C := RX6) cf6 (Or.inl ⟨rfl, rfl⟩) (by decide +kernel : decode cX8_init 49 = .ok (.aastore, 1)) hf (fun m86 hf => ?_)
  refine r_iinc hB (v := 6) 0 rfl (by decide +kernel : decode cX8_init 50 = .ok (.iinc 1 1, 3)) (by decide +kernel) (by decide) rfl ?_
  refine ww_lv (lv' := [(1, .int 6), (0, .ref (b + l0))]) rfl ?_
  refine r_goto hB (tgt := 31) (by decide +kernel : decode cX8_init 53 = .ok (.goto (-22), 3)) (by decide) ?_
  refine r_iload_n hB 0 rfl (by decide +kernel : decode cX8_init 31 = .ok (.iload_n 1, 1)) rfl ?_
  refine r_bipush hB (v := 6) (by decide +kernel : decode cX8_init 32 = .ok (.bipush 6, 2)) (by decide +kernel) ?_
  refine r_icmp_ge hB (tgt := 56) (by decide +kernel : decode cX8_init 34 = .ok (.if_icmp .ge 22, 3)) (by decide) (show (if (6 : Int32) ≤ 6 then (some () : Option Unit) else none) = some () by decide +kernel) (fun _ _ => ?_) (fun _ h => nomatch h)
  obtain rfl := Option.some.inj hf
  exact r_vret hB (by decide +kernel : decode cX8_init 56 = .ok (.return_, 1))
theorem m_X8_init (l : Launch) (D : va_G) (cy : Nat → ClassId) (b : Nat) {l0 : Nat} {s z : LMm} (hf : g_X8_init l0 s = some z) : Met l yX8_init (.code yX8_init cX8_init 2 none :: GW) rmX8_init (Pw D cy b [.ref (b + l0)] (mkM s)) (Qw D cy b none (mkM z)) rmX8_init.cells rmX8_init.slots (fun q => b ≤ q) :=
  met_of (by decide) (Nat.le_of_ble_eq_true rfl) (fun X hB _ => t_X8_init hB hf)
def g_X10_init (l0 : Nat) (s : LMm) : Option LMm :=
  (nA1 s 15 200).bind fun x5 =>
  (pR1 x5.2 10 l0 0 x5.1).bind fun m6 =>
  some m6
set_option maxHeartbeats 4000000 in
set_option maxRecDepth 100000 in
theorem t_X10_init {X : BX} {D : va_G} {cy : Nat → ClassId} {b : Nat} (hB : BB X D cy b yX10_init cX10_init 1 none rmX10_init) {l0 : Nat} {s z : LMm} (hf : g_X10_init l0 s = some z) : WW X D cy b none (mkM z) 1 1 200 0 [(0, .ref (b + l0))] [] (mkM s) := by
  unfold g_X10_init at hf
  refine r_aload_n hB 0 rfl (by decide +kernel : decode cX10_init 0 = .ok (.aload_n 0, 1)) rfl ?_
  refine r_objInit hB (own := "PulseRemote$Train") rfl k_136 k_42 k_43 (by decide +kernel : decode cX10_init 1 = .ok (.invokespecial 3, 3)) (by decide) (Nat.le_of_ble_eq_true rfl) ?_
  refine r_aload_n hB 0 rfl (by decide +kernel : decode cX10_init 4 = .ok (.aload_n 0, 1)) rfl ?_
  refine r_sipush hB (v := 200) (by decide +kernel : decode cX10_init 5 = .ok (.sipush 200, 3)) (by decide +kernel) ?_
  refine WW.mono (kc := 0 + 1) (ks := 0 + 200) (Nat.le_of_ble_eq_true rfl) (Nat.le_of_ble_eq_true rfl) (q_newA hB (t := 15) (at_ := .int) (Or.inr (Or.inr (Or.inl ⟨rfl, rfl⟩))) k_109 (by decide +kernel) (by decide +kernel) (Nat.le_of_ble_eq_true rfl) (by decide +kernel : decode cX10_init 8 = .ok (.newarray .int, 2)) hf (fun x5 hf => ?_))
  refine q_pR hB cf10 0 (by decide) (own := "PulseRemote$Train") rfl (Or.inl k_137) (Or.inr ⟨rfl, rfl, rfl, k_137⟩) (by decide +kernel) (by decide +kernel : decode cX10_init 10 = .ok (.putfield 9, 3)) hf (fun m6 hf => ?_)
  obtain rfl := Option.some.inj hf
  exact r_vret hB (by decide +kernel : decode cX10_init 13 = .ok (.return_, 1))
theorem m_X10_init (l : Launch) (D : va_G) (cy : Nat → ClassId) (b : Nat) {l0 : Nat} {s z : LMm} (hf : g_X10_init l0 s = some z) : Met l yX10_init (.code yX10_init cX10_init 1 none :: GW) rmX10_init (Pw D cy b [.ref (b + l0)] (mkM s)) (Qw D cy b none (mkM z)) rmX10_init.cells rmX10_init.slots (fun q => b ≤ q) :=
  met_of (by decide) (Nat.le_of_ble_eq_true rfl) (fun X hB _ => t_X10_init hB hf)
def g_X7_init (l0 : Nat) (s : LMm) : Option LMm :=
  (nO1 s 8).bind fun x4 =>
  (g_X8_init x4.1 x4.2).bind fun z6 =>
  (pR1 z6 7 l0 0 x4.1).bind fun m7 =>
  (nA1 m7 20 3).bind fun x10 =>
  (pR1 x10.2 7 l0 1 x10.1).bind fun m11 =>
  (pI1 m11 7 l0 2 10000).bind fun m14 =>
  (pI1 m14 7 l0 3 40000).bind fun m17 =>
  (pI1 m17 7 l0 4 20).bind fun m20 =>
  (gR1 m20 7 l0 1).bind fun x27 =>
  (nO1 m20 10).bind fun x29 =>
  (g_X10_init x29.1 x29.2).bind fun z31 =>
  (sR1 z31 20 10 x27 0 x29.1).bind fun m32 =>
  (gR1 m32 7 l0 1).bind fun x39 =>
  (nO1 m32 10).bind fun x41 =>
  (g_X10_init x41.1 x41.2).bind fun z43 =>
  (sR1 z43 20 10 x39 1 x41.1).bind fun m44 =>
  (gR1 m44 7 l0 1).bind fun x51 =>
  (nO1 m44 10).bind fun x53 =>
  (g_X10_init x53.1 x53.2).bind fun z55 =>
  (sR1 z55 20 10 x51 2 x53.1).bind fun m56 =>
  some m56
set_option maxHeartbeats 4000000 in
set_option maxRecDepth 100000 in
theorem t_X7_init {X : BX} {D : va_G} {cy : Nat → ClassId} {b : Nat} (hB : BB X D cy b yX7_init cX7_init 2 none rmX7_init) {l0 : Nat} {s z : LMm} (hf : g_X7_init l0 s = some z) : WW X D cy b none (mkM z) 2 17 698 0 [(0, .ref (b + l0))] [] (mkM s) := by
  unfold g_X7_init at hf
  refine r_aload_n hB 0 rfl (by decide +kernel : decode cX7_init 0 = .ok (.aload_n 0, 1)) rfl ?_
  refine r_objInit hB (own := "PulseRemote$State") rfl k_49 k_42 k_43 (by decide +kernel : decode cX7_init 1 = .ok (.invokespecial 3, 3)) (by decide) (Nat.le_of_ble_eq_true rfl) ?_
  refine r_aload_n hB 0 rfl (by decide +kernel : decode cX7_init 4 = .ok (.aload_n 0, 1)) rfl ?_
  refine WW.mono (kc := 16 + 1) (ks := 693 + 5) (Nat.le_of_ble_eq_true rfl) (Nat.le_of_ble_eq_true rfl) (q_new hB cf8 (by decide) (own := "PulseRemote$State") rfl k_50 k_51 k_24 (by decide +kernel : decode cX7_init 5 = .ok (.new 9, 3)) hf (fun x4 hf => ?_))
  refine r_dup hB (by decide +kernel : decode cX7_init 8 = .ok (.dup, 1)) rfl ?_
  refine WW.mono (kc := 7 + rmX8_init.cells) (ks := 609 + rmX8_init.slots) (Nat.le_of_ble_eq_true rfl) (Nat.le_of_ble_eq_true rfl) (q_cI hB [] [.ref (b + x4.1), .ref (b + l0)] (own := "PulseRemote$State") rfl cmX8_init hiX8_init rfl (Or.inl k_52) (by decide) rfl (Nat.le_of_ble_eq_true rfl) (by decide +kernel : decode cX7_init 9 = .ok (.invokespecial 11, 3)) (fun z hz => m_X8_init _ _ _ _ hz) rfl hf (fun z6 hf => ?_))
  refine q_pR hB cf7 0 (by decide) (own := "PulseRemote$State") rfl (Or.inl k_148) (Or.inr ⟨rfl, rfl, rfl, k_148⟩) (by decide +kernel) (by decide +kernel : decode cX7_init 12 = .ok (.putfield 12, 3)) hf (fun m7 hf => ?_)
  refine r_aload_n hB 0 rfl (by decide +kernel : decode cX7_init 15 = .ok (.aload_n 0, 1)) rfl ?_
  refine r_iconst hB (v := 3) (by decide +kernel : decode cX7_init 16 = .ok (.iconst 3, 1)) (by decide +kernel) ?_
  refine WW.mono (kc := 6 + 1) (ks := 606 + 3) (Nat.le_of_ble_eq_true rfl) (Nat.le_of_ble_eq_true rfl) (q_newR hB (t := 20) (C := RX10) (Or.inr (Or.inr ⟨rfl, rfl⟩)) (own := "PulseRemote$State") rfl k_129 (by decide +kernel) (by decide +kernel) (Nat.le_of_ble_eq_true rfl) (by decide +kernel : decode cX7_init 17 = .ok (.anewarray 18, 3)) hf (fun x10 hf => ?_))
  refine q_pR hB cf7 1 (by decide) (own := "PulseRemote$State") rfl (Or.inl k_151) (Or.inr ⟨rfl, rfl, rfl, k_151⟩) (by decide +kernel) (by decide +kernel : decode cX7_init 20 = .ok (.putfield 20, 3)) hf (fun m11 hf => ?_)
  refine r_aload_n hB 0 rfl (by decide +kernel : decode cX7_init 23 = .ok (.aload_n 0, 1)) rfl ?_
  refine r_sipush hB (v := 10000) (by decide +kernel : decode cX7_init 24 = .ok (.sipush 10000, 3)) (by decide +kernel) ?_
  refine q_pI hB cf7 2 (by decide) (own := "PulseRemote$State") rfl (Or.inl k_152) (Or.inl rfl) rfl (by decide +kernel : decode cX7_init 27 = .ok (.putfield 24, 3)) hf (fun m14 hf => ?_)
  refine r_aload_n hB 0 rfl (by decide +kernel : decode cX7_init 30 = .ok (.aload_n 0, 1)) rfl ?_
  refine r_ldc hB (v := 40000) (own := "PulseRemote$State") rfl k_131 (by decide +kernel : decode cX7_init 31 = .ok (.ldc 28, 2)) ?_
  refine q_pI hB cf7 3 (by decide) (own := "PulseRemote$State") rfl (Or.inl k_155) (Or.inl rfl) rfl (by decide +kernel : decode cX7_init 33 = .ok (.putfield 29, 3)) hf (fun m17 hf => ?_)
  refine r_aload_n hB 0 rfl (by decide +kernel : decode cX7_init 36 = .ok (.aload_n 0, 1)) rfl ?_
  refine r_bipush hB (v := 20) (by decide +kernel : decode cX7_init 37 = .ok (.bipush 20, 2)) (by decide +kernel) ?_
  refine q_pI hB cf7 4 (by decide) (own := "PulseRemote$State") rfl (Or.inl k_158) (Or.inl rfl) rfl (by decide +kernel : decode cX7_init 39 = .ok (.putfield 32, 3)) hf (fun m20 hf => ?_)
  refine r_iconst hB (v := 0) (by decide +kernel : decode cX7_init 42 = .ok (.iconst 0, 1)) (by decide +kernel) ?_
  refine r_istore_n hB (by decide +kernel : decode cX7_init 43 = .ok (.istore_n 1, 1)) rfl (by decide) rfl ?_
  refine ww_lv (lv' := [(1, .int 0), (0, .ref (b + l0))]) rfl ?_
  refine r_iload_n hB 0 rfl (by decide +kernel : decode cX7_init 44 = .ok (.iload_n 1, 1)) rfl ?_
  refine r_iconst hB (v := 3) (by decide +kernel : decode cX7_init 45 = .ok (.iconst 3, 1)) (by decide +kernel) ?_
  refine r_icmp_ge hB (tgt := 68) (by decide +kernel : decode cX7_init 46 = .ok (.if_icmp .ge 22, 3)) (by decide) (show (if (3 : Int32) ≤ 0 then (none : Option Unit) else some ()) = some () by decide +kernel) (fun _ h => nomatch h) (fun _ _ => ?_)
  refine r_aload_n hB 1 rfl (by decide +kernel : decode cX7_init 49 = .ok (.aload_n 0, 1)) rfl ?_
  refine q_gR hB cf7 1 (by decide) (own := "PulseRemote$State") rfl (Or.inl k_151) (by decide +kernel) (by decide +kernel : decode cX7_init 50 = .ok (.getfield 20, 3)) hf (fun x27 hf => ?_)
  refine r_iload_n hB 0 rfl (by decide +kernel : decode cX7_init 53 = .ok (.iload_n 1, 1)) rfl ?_
  refine WW.mono (kc := 5 + 1) (ks := 604 + 2) (Nat.le_of_ble_eq_true rfl) (Nat.le_of_ble_eq_true rfl) (q_new hB cf10 (by decide) (own := "PulseRemote$State") rfl k_129 k_132 k_26 (by decide +kernel : decode cX7_init 54 = .ok (.new 18, 3)) hf (fun x29 hf => ?_))
  refine r_dup hB (by decide +kernel : decode cX7_init 57 = .ok (.dup, 1)) rfl ?_
  refine WW.mono (kc := 4 + rmX10_init.cells) (ks := 404 + rmX10_init.slots) (Nat.le_of_ble_eq_true rfl) (Nat.le_of_ble_eq_true rfl) (q_cI hB [] [.ref (b + x29.1), .int 0, .ref (b + x27)] (own := "PulseRemote$State") rfl cmX10_init hiX10_init rfl (Or.inr ⟨_, k_133⟩) (by decide) rfl (Nat.le_of_ble_eq_true rfl) (by decide +kernel : decode cX7_init 58 = .ok (.invokespecial 35, 3)) (fun z hz => m_X10_init _ _ _ _ hz) rfl hf (fun z31 hf => ?_))
  refine q_aast hB (t := 20) (C := RX10) cf10 (Or.inr (Or.inr ⟨rfl, rfl⟩)) (by decide +kernel : decode cX7_init 61 = .ok (.aastore, 1)) hf (fun m32 hf => ?_)
  refine r_iinc hB (v := 1) 0 rfl (by decide +kernel : decode cX7_init 62 = .ok (.iinc 1 1, 3)) (by decide +kernel) (by decide) rfl ?_
  refine ww_lv (lv' := [(1, .int 1), (0, .ref (b + l0))]) rfl ?_
  refine r_goto hB (tgt := 44) (by decide +kernel : decode cX7_init 65 = .ok (.goto (-21), 3)) (by decide) ?_
  refine r_iload_n hB 0 rfl (by decide +kernel : decode cX7_init 44 = .ok (.iload_n 1, 1)) rfl ?_
  refine r_iconst hB (v := 3) (by decide +kernel : decode cX7_init 45 = .ok (.iconst 3, 1)) (by decide +kernel) ?_
  refine r_icmp_ge hB (tgt := 68) (by decide +kernel : decode cX7_init 46 = .ok (.if_icmp .ge 22, 3)) (by decide) (show (if (3 : Int32) ≤ 1 then (none : Option Unit) else some ()) = some () by decide +kernel) (fun _ h => nomatch h) (fun _ _ => ?_)
  refine r_aload_n hB 1 rfl (by decide +kernel : decode cX7_init 49 = .ok (.aload_n 0, 1)) rfl ?_
  refine q_gR hB cf7 1 (by decide) (own := "PulseRemote$State") rfl (Or.inl k_151) (by decide +kernel) (by decide +kernel : decode cX7_init 50 = .ok (.getfield 20, 3)) hf (fun x39 hf => ?_)
  refine r_iload_n hB 0 rfl (by decide +kernel : decode cX7_init 53 = .ok (.iload_n 1, 1)) rfl ?_
  refine WW.mono (kc := 3 + 1) (ks := 402 + 2) (Nat.le_of_ble_eq_true rfl) (Nat.le_of_ble_eq_true rfl) (q_new hB cf10 (by decide) (own := "PulseRemote$State") rfl k_129 k_132 k_26 (by decide +kernel : decode cX7_init 54 = .ok (.new 18, 3)) hf (fun x41 hf => ?_))
  refine r_dup hB (by decide +kernel : decode cX7_init 57 = .ok (.dup, 1)) rfl ?_
  refine WW.mono (kc := 2 + rmX10_init.cells) (ks := 202 + rmX10_init.slots) (Nat.le_of_ble_eq_true rfl) (Nat.le_of_ble_eq_true rfl) (q_cI hB [] [.ref (b + x41.1), .int 1, .ref (b + x39)] (own := "PulseRemote$State") rfl cmX10_init hiX10_init rfl (Or.inr ⟨_, k_133⟩) (by decide) rfl (Nat.le_of_ble_eq_true rfl) (by decide +kernel : decode cX7_init 58 = .ok (.invokespecial 35, 3)) (fun z hz => m_X10_init _ _ _ _ hz) rfl hf (fun z43 hf => ?_))
  refine q_aast hB (t := 20) (C := RX10) cf10 (Or.inr (Or.inr ⟨rfl, rfl⟩)) (by decide +kernel : decode cX7_init 61 = .ok (.aastore, 1)) hf (fun m44 hf => ?_)
  refine r_iinc hB (v := 2) 0 rfl (by decide +kernel : decode cX7_init 62 = .ok (.iinc 1 1, 3)) (by decide +kernel) (by decide) rfl ?_
  refine ww_lv (lv' := [(1, .int 2), (0, .ref (b + l0))]) rfl ?_
  refine r_goto hB (tgt := 44) (by decide +kernel : decode cX7_init 65 = .ok (.goto (-21), 3)) (by decide) ?_
  refine r_iload_n hB 0 rfl (by decide +kernel : decode cX7_init 44 = .ok (.iload_n 1, 1)) rfl ?_
  refine r_iconst hB (v := 3) (by decide +kernel : decode cX7_init 45 = .ok (.iconst 3, 1)) (by decide +kernel) ?_
  refine r_icmp_ge hB (tgt := 68) (by decide +kernel : decode cX7_init 46 = .ok (.if_icmp .ge 22, 3)) (by decide) (show (if (3 : Int32) ≤ 2 then (none : Option Unit) else some ()) = some () by decide +kernel) (fun _ h => nomatch h) (fun _ _ => ?_)
  refine r_aload_n hB 1 rfl (by decide +kernel : decode cX7_init 49 = .ok (.aload_n 0, 1)) rfl ?_
  refine q_gR hB cf7 1 (by decide) (own := "PulseRemote$State") rfl (Or.inl k_151) (by decide +kernel) (by decide +kernel : decode cX7_init 50 = .ok (.getfield 20, 3)) hf (fun x51 hf => ?_)
  refine r_iload_n hB 0 rfl (by decide +kernel : decode cX7_init 53 = .ok (.iload_n 1, 1)) rfl ?_
  refine WW.mono (kc := 1 + 1) (ks := 200 + 2) (Nat.le_of_ble_eq_true rfl) (Nat.le_of_ble_eq_true rfl) (q_new hB cf10 (by decide) (own := "PulseRemote$State") rfl k_129 k_132 k_26 (by decide +kernel : decode cX7_init 54 = .ok (.new 18, 3)) hf (fun x53 hf => ?_))
  refine r_dup hB (by decide +kernel : decode cX7_init 57 = .ok (.dup, 1)) rfl ?_
  refine WW.mono (kc := 0 + rmX10_init.cells) (ks := 0 + rmX10_init.slots) (Nat.le_of_ble_eq_true rfl) (Nat.le_of_ble_eq_true rfl) (q_cI hB [] [.ref (b + x53.1), .int 2, .ref (b + x51)] (own := "PulseRemote$State") rfl cmX10_init hiX10_init rfl (Or.inr ⟨_, k_133⟩) (by decide) rfl (Nat.le_of_ble_eq_true rfl) (by decide +kernel : decode cX7_init 58 = .ok (.invokespecial 35, 3)) (fun z hz => m_X10_init _ _ _ _ hz) rfl hf (fun z55 hf => ?_))
  refine q_aast hB (t := 20) (C := RX10) cf10 (Or.inr (Or.inr ⟨rfl, rfl⟩)) (by decide +kernel : decode cX7_init 61 = .ok (.aastore, 1)) hf (fun m56 hf => ?_)
  refine r_iinc hB (v := 3) 0 rfl (by decide +kernel : decode cX7_init 62 = .ok (.iinc 1 1, 3)) (by decide +kernel) (by decide) rfl ?_
  refine ww_lv (lv' := [(1, .int 3), (0, .ref (b + l0))]) rfl ?_
  refine r_goto hB (tgt := 44) (by decide +kernel : decode cX7_init 65 = .ok (.goto (-21), 3)) (by decide) ?_
  refine r_iload_n hB 0 rfl (by decide +kernel : decode cX7_init 44 = .ok (.iload_n 1, 1)) rfl ?_
  refine r_iconst hB (v := 3) (by decide +kernel : decode cX7_init 45 = .ok (.iconst 3, 1)) (by decide +kernel) ?_
  refine r_icmp_ge hB (tgt := 68) (by decide +kernel : decode cX7_init 46 = .ok (.if_icmp .ge 22, 3)) (by decide) (show (if (3 : Int32) ≤ 3 then (some () : Option Unit) else none) = some () by decide +kernel) (fun _ _ => ?_) (fun _ h => nomatch h)
  obtain rfl := Option.some.inj hf
  exact r_vret hB (by decide +kernel : decode cX7_init 68 = .ok (.return_, 1))
theorem m_X7_init (l : Launch) (D : va_G) (cy : Nat → ClassId) (b : Nat) {l0 : Nat} {s z : LMm} (hf : g_X7_init l0 s = some z) : Met l yX7_init (.code yX7_init cX7_init 2 none :: GW) rmX7_init (Pw D cy b [.ref (b + l0)] (mkM s)) (Qw D cy b none (mkM z)) rmX7_init.cells rmX7_init.slots (fun q => b ≤ q) :=
  met_of (by decide) (Nat.le_of_ble_eq_true rfl) (fun X hB _ => t_X7_init hB hf)
def g_X9_init (l0 : Nat) (s : LMm) : Option LMm :=
  (nA1 s 14 160).bind fun x5 =>
  (pR1 x5.2 9 l0 0 x5.1).bind fun m6 =>
  some m6
set_option maxHeartbeats 4000000 in
set_option maxRecDepth 100000 in
theorem t_X9_init {X : BX} {D : va_G} {cy : Nat → ClassId} {b : Nat} (hB : BB X D cy b yX9_init cX9_init 1 none rmX9_init) {l0 : Nat} {s z : LMm} (hf : g_X9_init l0 s = some z) : WW X D cy b none (mkM z) 1 1 160 0 [(0, .ref (b + l0))] [] (mkM s) := by
  unfold g_X9_init at hf
  refine r_aload_n hB 0 rfl (by decide +kernel : decode cX9_init 0 = .ok (.aload_n 0, 1)) rfl ?_
  refine r_objInit hB (own := "PulseRemote$Text") rfl k_178 k_42 k_43 (by decide +kernel : decode cX9_init 1 = .ok (.invokespecial 3, 3)) (by decide) (Nat.le_of_ble_eq_true rfl) ?_
  refine r_aload_n hB 0 rfl (by decide +kernel : decode cX9_init 4 = .ok (.aload_n 0, 1)) rfl ?_
  refine r_sipush hB (v := 160) (by decide +kernel : decode cX9_init 5 = .ok (.sipush 160, 3)) (by decide +kernel) ?_
  refine WW.mono (kc := 0 + 1) (ks := 0 + 160) (Nat.le_of_ble_eq_true rfl) (Nat.le_of_ble_eq_true rfl) (q_newA hB (t := 14) (at_ := .char) (Or.inr (Or.inl ⟨rfl, rfl⟩)) k_192 (by decide +kernel) (by decide +kernel) (Nat.le_of_ble_eq_true rfl) (by decide +kernel : decode cX9_init 8 = .ok (.newarray .char, 2)) hf (fun x5 hf => ?_))
  refine q_pR hB cf9 0 (by decide) (own := "PulseRemote$Text") rfl (Or.inl k_179) (Or.inr ⟨rfl, rfl, rfl, k_179⟩) (by decide +kernel) (by decide +kernel : decode cX9_init 10 = .ok (.putfield 9, 3)) hf (fun m6 hf => ?_)
  obtain rfl := Option.some.inj hf
  exact r_vret hB (by decide +kernel : decode cX9_init 13 = .ok (.return_, 1))
theorem m_X9_init (l : Launch) (D : va_G) (cy : Nat → ClassId) (b : Nat) {l0 : Nat} {s z : LMm} (hf : g_X9_init l0 s = some z) : Met l yX9_init (.code yX9_init cX9_init 1 none :: GW) rmX9_init (Pw D cy b [.ref (b + l0)] (mkM s)) (Qw D cy b none (mkM z)) rmX9_init.cells rmX9_init.slots (fun q => b ≤ q) :=
  met_of (by decide) (Nat.le_of_ble_eq_true rfl) (fun X hB _ => t_X9_init hB hf)
def g_X3_init (l0 : Nat) (s : LMm) : Option LMm :=
  (nA1 s 15 100).bind fun x5 =>
  (pR1 x5.2 3 l0 0 x5.1).bind fun m6 =>
  (nA1 m6 15 100).bind fun x9 =>
  (pR1 x9.2 3 l0 1 x9.1).bind fun m10 =>
  (nO1 m10 10).bind fun x12 =>
  (g_X10_init x12.1 x12.2).bind fun z14 =>
  (pR1 z14 3 l0 3 x12.1).bind fun m15 =>
  some m15
set_option maxHeartbeats 4000000 in
set_option maxRecDepth 100000 in
theorem t_X3_init {X : BX} {D : va_G} {cy : Nat → ClassId} {b : Nat} (hB : BB X D cy b yX3_init cX3_init 1 none rmX3_init) {l0 : Nat} {s z : LMm} (hf : g_X3_init l0 s = some z) : WW X D cy b none (mkM z) 1 4 402 0 [(0, .ref (b + l0))] [] (mkM s) := by
  unfold g_X3_init at hf
  refine r_aload_n hB 0 rfl (by decide +kernel : decode cX3_init 0 = .ok (.aload_n 0, 1)) rfl ?_
  refine r_objInit hB (own := "PulseRemote$FrameList") rfl k_202 k_42 k_43 (by decide +kernel : decode cX3_init 1 = .ok (.invokespecial 3, 3)) (by decide) (Nat.le_of_ble_eq_true rfl) ?_
  refine r_aload_n hB 0 rfl (by decide +kernel : decode cX3_init 4 = .ok (.aload_n 0, 1)) rfl ?_
  refine r_bipush hB (v := 100) (by decide +kernel : decode cX3_init 5 = .ok (.bipush 100, 2)) (by decide +kernel) ?_
  refine WW.mono (kc := 3 + 1) (ks := 302 + 100) (Nat.le_of_ble_eq_true rfl) (Nat.le_of_ble_eq_true rfl) (q_newA hB (t := 15) (at_ := .int) (Or.inr (Or.inr (Or.inl ⟨rfl, rfl⟩))) k_109 (by decide +kernel) (by decide +kernel) (Nat.le_of_ble_eq_true rfl) (by decide +kernel : decode cX3_init 7 = .ok (.newarray .int, 2)) hf (fun x5 hf => ?_))
  refine q_pR hB cf3 0 (by decide) (own := "PulseRemote$FrameList") rfl (Or.inl k_205) (Or.inr ⟨rfl, rfl, rfl, k_205⟩) (by decide +kernel) (by decide +kernel : decode cX3_init 9 = .ok (.putfield 9, 3)) hf (fun m6 hf => ?_)
  refine r_aload_n hB 0 rfl (by decide +kernel : decode cX3_init 12 = .ok (.aload_n 0, 1)) rfl ?_
  refine r_bipush hB (v := 100) (by decide +kernel : decode cX3_init 13 = .ok (.bipush 100, 2)) (by decide +kernel) ?_
  refine WW.mono (kc := 2 + 1) (ks := 202 + 100) (Nat.le_of_ble_eq_true rfl) (Nat.le_of_ble_eq_true rfl) (q_newA hB (t := 15) (at_ := .int) (Or.inr (Or.inr (Or.inl ⟨rfl, rfl⟩))) k_109 (by decide +kernel) (by decide +kernel) (Nat.le_of_ble_eq_true rfl) (by decide +kernel : decode cX3_init 15 = .ok (.newarray .int, 2)) hf (fun x9 hf => ?_))
  refine q_pR hB cf3 1 (by decide) (own := "PulseRemote$FrameList") rfl (Or.inl k_206) (Or.inr ⟨rfl, rfl, rfl, k_206⟩) (by decide +kernel) (by decide +kernel : decode cX3_init 17 = .ok (.putfield 15, 3)) hf (fun m10 hf => ?_)
  refine r_aload_n hB 0 rfl (by decide +kernel : decode cX3_init 20 = .ok (.aload_n 0, 1)) rfl ?_
  refine WW.mono (kc := 1 + 1) (ks := 200 + 2) (Nat.le_of_ble_eq_true rfl) (Nat.le_of_ble_eq_true rfl) (q_new hB cf10 (by decide) (own := "PulseRemote$FrameList") rfl k_203 k_132 k_26 (by decide +kernel : decode cX3_init 21 = .ok (.new 18, 3)) hf (fun x12 hf => ?_))
  refine r_dup hB (by decide +kernel : decode cX3_init 24 = .ok (.dup, 1)) rfl ?_
  refine WW.mono (kc := 0 + rmX10_init.cells) (ks := 0 + rmX10_init.slots) (Nat.le_of_ble_eq_true rfl) (Nat.le_of_ble_eq_true rfl) (q_cI hB [] [.ref (b + x12.1), .ref (b + l0)] (own := "PulseRemote$FrameList") rfl cmX10_init hiX10_init rfl (Or.inr ⟨_, k_204⟩) (by decide) rfl (Nat.le_of_ble_eq_true rfl) (by decide +kernel : decode cX3_init 25 = .ok (.invokespecial 20, 3)) (fun z hz => m_X10_init _ _ _ _ hz) rfl hf (fun z14 hf => ?_))
  refine q_pR hB cf3 3 (by decide) (own := "PulseRemote$FrameList") rfl (Or.inl k_211) (Or.inr ⟨rfl, rfl, rfl, k_211⟩) (by decide +kernel) (by decide +kernel : decode cX3_init 28 = .ok (.putfield 21, 3)) hf (fun m15 hf => ?_)
  obtain rfl := Option.some.inj hf
  exact r_vret hB (by decide +kernel : decode cX3_init 31 = .ok (.return_, 1))
theorem m_X3_init (l : Launch) (D : va_G) (cy : Nat → ClassId) (b : Nat) {l0 : Nat} {s z : LMm} (hf : g_X3_init l0 s = some z) : Met l yX3_init (.code yX3_init cX3_init 1 none :: GW) rmX3_init (Pw D cy b [.ref (b + l0)] (mkM s)) (Qw D cy b none (mkM z)) rmX3_init.cells rmX3_init.slots (fun q => b ≤ q) :=
  met_of (by decide) (Nat.le_of_ble_eq_true rfl) (fun X hB _ => t_X3_init hB hf)
def g_X2_init (l0 : Nat) (s : LMm) : Option LMm :=
  (pI1 s 2 l0 0 ((-9))).bind fun m5 =>
  (pI1 m5 2 l0 1 ((-9))).bind fun m8 =>
  (nA1 m8 15 35).bind fun x11 =>
  (pR1 x11.2 2 l0 2 x11.1).bind fun m12 =>
  (nA1 m12 16 17).bind fun x15 =>
  (pR1 x15.2 2 l0 5 x15.1).bind fun m16 =>
  some m16
set_option maxHeartbeats 4000000 in
set_option maxRecDepth 100000 in
theorem t_X2_init {X : BX} {D : va_G} {cy : Nat → ClassId} {b : Nat} (hB : BB X D cy b yX2_init cX2_init 1 none rmX2_init) {l0 : Nat} {s z : LMm} (hf : g_X2_init l0 s = some z) : WW X D cy b none (mkM z) 1 2 52 0 [(0, .ref (b + l0))] [] (mkM s) := by
  unfold g_X2_init at hf
  refine r_aload_n hB 0 rfl (by decide +kernel : decode cX2_init 0 = .ok (.aload_n 0, 1)) rfl ?_
  refine r_objInit hB (own := "PulseRemote$Decoder") rfl k_226 k_42 k_43 (by decide +kernel : decode cX2_init 1 = .ok (.invokespecial 3, 3)) (by decide) (Nat.le_of_ble_eq_true rfl) ?_
  refine r_aload_n hB 0 rfl (by decide +kernel : decode cX2_init 4 = .ok (.aload_n 0, 1)) rfl ?_
  refine r_bipush hB (v := (-9)) (by decide +kernel : decode cX2_init 5 = .ok (.bipush (-9), 2)) (by decide +kernel) ?_
  refine q_pI hB cf2 0 (by decide) (own := "PulseRemote$Decoder") rfl (Or.inl k_227) (Or.inl rfl) rfl (by decide +kernel : decode cX2_init 7 = .ok (.putfield 9, 3)) hf (fun m5 hf => ?_)
  refine r_aload_n hB 0 rfl (by decide +kernel : decode cX2_init 10 = .ok (.aload_n 0, 1)) rfl ?_
  refine r_bipush hB (v := (-9)) (by decide +kernel : decode cX2_init 11 = .ok (.bipush (-9), 2)) (by decide +kernel) ?_
  refine q_pI hB cf2 1 (by decide) (own := "PulseRemote$Decoder") rfl (Or.inl k_230) (Or.inl rfl) rfl (by decide +kernel : decode cX2_init 13 = .ok (.putfield 15, 3)) hf (fun m8 hf => ?_)
  refine r_aload_n hB 0 rfl (by decide +kernel : decode cX2_init 16 = .ok (.aload_n 0, 1)) rfl ?_
  refine r_bipush hB (v := 35) (by decide +kernel : decode cX2_init 17 = .ok (.bipush 35, 2)) (by decide +kernel) ?_
  refine WW.mono (kc := 1 + 1) (ks := 17 + 35) (Nat.le_of_ble_eq_true rfl) (Nat.le_of_ble_eq_true rfl) (q_newA hB (t := 15) (at_ := .int) (Or.inr (Or.inr (Or.inl ⟨rfl, rfl⟩))) k_109 (by decide +kernel) (by decide +kernel) (Nat.le_of_ble_eq_true rfl) (by decide +kernel : decode cX2_init 19 = .ok (.newarray .int, 2)) hf (fun x11 hf => ?_))
  refine q_pR hB cf2 2 (by decide) (own := "PulseRemote$Decoder") rfl (Or.inl k_233) (Or.inr ⟨rfl, rfl, rfl, k_233⟩) (by decide +kernel) (by decide +kernel : decode cX2_init 21 = .ok (.putfield 18, 3)) hf (fun m12 hf => ?_)
  refine r_aload_n hB 0 rfl (by decide +kernel : decode cX2_init 24 = .ok (.aload_n 0, 1)) rfl ?_
  refine r_bipush hB (v := 17) (by decide +kernel : decode cX2_init 25 = .ok (.bipush 17, 2)) (by decide +kernel) ?_
  refine WW.mono (kc := 0 + 1) (ks := 0 + 17) (Nat.le_of_ble_eq_true rfl) (Nat.le_of_ble_eq_true rfl) (q_newA hB (t := 16) (at_ := .long) (Or.inr (Or.inr (Or.inr (Or.inl ⟨rfl, rfl⟩)))) k_250 (by decide +kernel) (by decide +kernel) (Nat.le_of_ble_eq_true rfl) (by decide +kernel : decode cX2_init 27 = .ok (.newarray .long, 2)) hf (fun x15 hf => ?_))
  refine q_pR hB cf2 5 (by decide) (own := "PulseRemote$Decoder") rfl (Or.inl k_236) (Or.inr ⟨rfl, rfl, rfl, k_236⟩) (by decide +kernel) (by decide +kernel : decode cX2_init 29 = .ok (.putfield 22, 3)) hf (fun m16 hf => ?_)
  obtain rfl := Option.some.inj hf
  exact r_vret hB (by decide +kernel : decode cX2_init 32 = .ok (.return_, 1))
theorem m_X2_init (l : Launch) (D : va_G) (cy : Nat → ClassId) (b : Nat) {l0 : Nat} {s z : LMm} (hf : g_X2_init l0 s = some z) : Met l yX2_init (.code yX2_init cX2_init 1 none :: GW) rmX2_init (Pw D cy b [.ref (b + l0)] (mkM s)) (Qw D cy b none (mkM z)) rmX2_init.cells rmX2_init.slots (fun q => b ≤ q) :=
  met_of (by decide) (Nat.le_of_ble_eq_true rfl) (fun X hB _ => t_X2_init hB hf)
def g_X5_init (l0 : Nat) (s : LMm) : Option LMm :=
  (nA1 s 15 30).bind fun x5 =>
  (pR1 x5.2 5 l0 0 x5.1).bind fun m6 =>
  (nA1 m6 15 30).bind fun x9 =>
  (pR1 x9.2 5 l0 1 x9.1).bind fun m10 =>
  (nA1 m10 15 30).bind fun x13 =>
  (pR1 x13.2 5 l0 2 x13.1).bind fun m14 =>
  some m14
set_option maxHeartbeats 4000000 in
set_option maxRecDepth 100000 in
theorem t_X5_init {X : BX} {D : va_G} {cy : Nat → ClassId} {b : Nat} (hB : BB X D cy b yX5_init cX5_init 1 none rmX5_init) {l0 : Nat} {s z : LMm} (hf : g_X5_init l0 s = some z) : WW X D cy b none (mkM z) 1 3 90 0 [(0, .ref (b + l0))] [] (mkM s) := by
  unfold g_X5_init at hf
  refine r_aload_n hB 0 rfl (by decide +kernel : decode cX5_init 0 = .ok (.aload_n 0, 1)) rfl ?_
  refine r_objInit hB (own := "PulseRemote$PressList") rfl k_256 k_42 k_43 (by decide +kernel : decode cX5_init 1 = .ok (.invokespecial 3, 3)) (by decide) (Nat.le_of_ble_eq_true rfl) ?_
  refine r_aload_n hB 0 rfl (by decide +kernel : decode cX5_init 4 = .ok (.aload_n 0, 1)) rfl ?_
  refine r_bipush hB (v := 30) (by decide +kernel : decode cX5_init 5 = .ok (.bipush 30, 2)) (by decide +kernel) ?_
  refine WW.mono (kc := 2 + 1) (ks := 60 + 30) (Nat.le_of_ble_eq_true rfl) (Nat.le_of_ble_eq_true rfl) (q_newA hB (t := 15) (at_ := .int) (Or.inr (Or.inr (Or.inl ⟨rfl, rfl⟩))) k_109 (by decide +kernel) (by decide +kernel) (Nat.le_of_ble_eq_true rfl) (by decide +kernel : decode cX5_init 7 = .ok (.newarray .int, 2)) hf (fun x5 hf => ?_))
  refine q_pR hB cf5 0 (by decide) (own := "PulseRemote$PressList") rfl (Or.inl k_257) (Or.inr ⟨rfl, rfl, rfl, k_257⟩) (by decide +kernel) (by decide +kernel : decode cX5_init 9 = .ok (.putfield 9, 3)) hf (fun m6 hf => ?_)
  refine r_aload_n hB 0 rfl (by decide +kernel : decode cX5_init 12 = .ok (.aload_n 0, 1)) rfl ?_
  refine r_bipush hB (v := 30) (by decide +kernel : decode cX5_init 13 = .ok (.bipush 30, 2)) (by decide +kernel) ?_
  refine WW.mono (kc := 1 + 1) (ks := 30 + 30) (Nat.le_of_ble_eq_true rfl) (Nat.le_of_ble_eq_true rfl) (q_newA hB (t := 15) (at_ := .int) (Or.inr (Or.inr (Or.inl ⟨rfl, rfl⟩))) k_109 (by decide +kernel) (by decide +kernel) (Nat.le_of_ble_eq_true rfl) (by decide +kernel : decode cX5_init 15 = .ok (.newarray .int, 2)) hf (fun x9 hf => ?_))
  refine q_pR hB cf5 1 (by decide) (own := "PulseRemote$PressList") rfl (Or.inl k_259) (Or.inr ⟨rfl, rfl, rfl, k_259⟩) (by decide +kernel) (by decide +kernel : decode cX5_init 17 = .ok (.putfield 15, 3)) hf (fun m10 hf => ?_)
  refine r_aload_n hB 0 rfl (by decide +kernel : decode cX5_init 20 = .ok (.aload_n 0, 1)) rfl ?_
  refine r_bipush hB (v := 30) (by decide +kernel : decode cX5_init 21 = .ok (.bipush 30, 2)) (by decide +kernel) ?_
  refine WW.mono (kc := 0 + 1) (ks := 0 + 30) (Nat.le_of_ble_eq_true rfl) (Nat.le_of_ble_eq_true rfl) (q_newA hB (t := 15) (at_ := .int) (Or.inr (Or.inr (Or.inl ⟨rfl, rfl⟩))) k_109 (by decide +kernel) (by decide +kernel) (Nat.le_of_ble_eq_true rfl) (by decide +kernel : decode cX5_init 23 = .ok (.newarray .int, 2)) hf (fun x13 hf => ?_))
  refine q_pR hB cf5 2 (by decide) (own := "PulseRemote$PressList") rfl (Or.inl k_261) (Or.inr ⟨rfl, rfl, rfl, k_261⟩) (by decide +kernel) (by decide +kernel : decode cX5_init 25 = .ok (.putfield 18, 3)) hf (fun m14 hf => ?_)
  obtain rfl := Option.some.inj hf
  exact r_vret hB (by decide +kernel : decode cX5_init 28 = .ok (.return_, 1))
theorem m_X5_init (l : Launch) (D : va_G) (cy : Nat → ClassId) (b : Nat) {l0 : Nat} {s z : LMm} (hf : g_X5_init l0 s = some z) : Met l yX5_init (.code yX5_init cX5_init 1 none :: GW) rmX5_init (Pw D cy b [.ref (b + l0)] (mkM s)) (Qw D cy b none (mkM z)) rmX5_init.cells rmX5_init.slots (fun q => b ≤ q) :=
  met_of (by decide) (Nat.le_of_ble_eq_true rfl) (fun X hB _ => t_X5_init hB hf)
def g_X0_init (l0 : Nat) (s : LMm) : Option LMm :=
  (nA1 s 15 200).bind fun x5 =>
  (pR1 x5.2 0 l0 0 x5.1).bind fun m6 =>
  some m6
set_option maxHeartbeats 4000000 in
set_option maxRecDepth 100000 in
theorem t_X0_init {X : BX} {D : va_G} {cy : Nat → ClassId} {b : Nat} (hB : BB X D cy b yX0_init cX0_init 1 none rmX0_init) {l0 : Nat} {s z : LMm} (hf : g_X0_init l0 s = some z) : WW X D cy b none (mkM z) 1 1 200 0 [(0, .ref (b + l0))] [] (mkM s) := by
  unfold g_X0_init at hf
  refine r_aload_n hB 0 rfl (by decide +kernel : decode cX0_init 0 = .ok (.aload_n 0, 1)) rfl ?_
  refine r_objInit hB (own := "PulseRemote$Clusters") rfl k_298 k_42 k_43 (by decide +kernel : decode cX0_init 1 = .ok (.invokespecial 3, 3)) (by decide) (Nat.le_of_ble_eq_true rfl) ?_
  refine r_aload_n hB 0 rfl (by decide +kernel : decode cX0_init 4 = .ok (.aload_n 0, 1)) rfl ?_
  refine r_sipush hB (v := 200) (by decide +kernel : decode cX0_init 5 = .ok (.sipush 200, 3)) (by decide +kernel) ?_
  refine WW.mono (kc := 0 + 1) (ks := 0 + 200) (Nat.le_of_ble_eq_true rfl) (Nat.le_of_ble_eq_true rfl) (q_newA hB (t := 15) (at_ := .int) (Or.inr (Or.inr (Or.inl ⟨rfl, rfl⟩))) k_109 (by decide +kernel) (by decide +kernel) (Nat.le_of_ble_eq_true rfl) (by decide +kernel : decode cX0_init 8 = .ok (.newarray .int, 2)) hf (fun x5 hf => ?_))
  refine q_pR hB cf0 0 (by decide) (own := "PulseRemote$Clusters") rfl (Or.inl k_299) (Or.inr ⟨rfl, rfl, rfl, k_299⟩) (by decide +kernel) (by decide +kernel : decode cX0_init 10 = .ok (.putfield 9, 3)) hf (fun m6 hf => ?_)
  obtain rfl := Option.some.inj hf
  exact r_vret hB (by decide +kernel : decode cX0_init 13 = .ok (.return_, 1))
theorem m_X0_init (l : Launch) (D : va_G) (cy : Nat → ClassId) (b : Nat) {l0 : Nat} {s z : LMm} (hf : g_X0_init l0 s = some z) : Met l yX0_init (.code yX0_init cX0_init 1 none :: GW) rmX0_init (Pw D cy b [.ref (b + l0)] (mkM s)) (Qw D cy b none (mkM z)) rmX0_init.cells rmX0_init.slots (fun q => b ≤ q) :=
  met_of (by decide) (Nat.le_of_ble_eq_true rfl) (fun X hB _ => t_X0_init hB hf)
def g_X4_init (l0 : Nat) (s : LMm) : Option LMm :=
  (nO1 s 0).bind fun x4 =>
  (g_X0_init x4.1 x4.2).bind fun z6 =>
  (pR1 z6 4 l0 0 x4.1).bind fun m7 =>
  (nO1 m7 0).bind fun x9 =>
  (g_X0_init x9.1 x9.2).bind fun z11 =>
  (pR1 z11 4 l0 1 x9.1).bind fun m12 =>
  some m12
set_option maxHeartbeats 4000000 in
set_option maxRecDepth 100000 in
theorem t_X4_init {X : BX} {D : va_G} {cy : Nat → ClassId} {b : Nat} (hB : BB X D cy b yX4_init cX4_init 1 none rmX4_init) {l0 : Nat} {s z : LMm} (hf : g_X4_init l0 s = some z) : WW X D cy b none (mkM z) 1 4 410 0 [(0, .ref (b + l0))] [] (mkM s) := by
  unfold g_X4_init at hf
  refine r_aload_n hB 0 rfl (by decide +kernel : decode cX4_init 0 = .ok (.aload_n 0, 1)) rfl ?_
  refine r_objInit hB (own := "PulseRemote$Learner") rfl k_292 k_42 k_43 (by decide +kernel : decode cX4_init 1 = .ok (.invokespecial 3, 3)) (by decide) (Nat.le_of_ble_eq_true rfl) ?_
  refine r_aload_n hB 0 rfl (by decide +kernel : decode cX4_init 4 = .ok (.aload_n 0, 1)) rfl ?_
  refine WW.mono (kc := 3 + 1) (ks := 405 + 5) (Nat.le_of_ble_eq_true rfl) (Nat.le_of_ble_eq_true rfl) (q_new hB cf0 (by decide) (own := "PulseRemote$Learner") rfl k_293 k_294 k_32 (by decide +kernel : decode cX4_init 5 = .ok (.new 9, 3)) hf (fun x4 hf => ?_))
  refine r_dup hB (by decide +kernel : decode cX4_init 8 = .ok (.dup, 1)) rfl ?_
  refine WW.mono (kc := 2 + rmX0_init.cells) (ks := 205 + rmX0_init.slots) (Nat.le_of_ble_eq_true rfl) (Nat.le_of_ble_eq_true rfl) (q_cI hB [] [.ref (b + x4.1), .ref (b + l0)] (own := "PulseRemote$Learner") rfl cmX0_init hiX0_init rfl (Or.inr ⟨_, k_295⟩) (by decide) rfl (Nat.le_of_ble_eq_true rfl) (by decide +kernel : decode cX4_init 9 = .ok (.invokespecial 11, 3)) (fun z hz => m_X0_init _ _ _ _ hz) rfl hf (fun z6 hf => ?_))
  refine q_pR hB cf4 0 (by decide) (own := "PulseRemote$Learner") rfl (Or.inl k_318) (Or.inr ⟨rfl, rfl, rfl, k_318⟩) (by decide +kernel) (by decide +kernel : decode cX4_init 12 = .ok (.putfield 12, 3)) hf (fun m7 hf => ?_)
  refine r_aload_n hB 0 rfl (by decide +kernel : decode cX4_init 15 = .ok (.aload_n 0, 1)) rfl ?_
  refine WW.mono (kc := 1 + 1) (ks := 200 + 5) (Nat.le_of_ble_eq_true rfl) (Nat.le_of_ble_eq_true rfl) (q_new hB cf0 (by decide) (own := "PulseRemote$Learner") rfl k_293 k_294 k_32 (by decide +kernel : decode cX4_init 16 = .ok (.new 9, 3)) hf (fun x9 hf => ?_))
  refine r_dup hB (by decide +kernel : decode cX4_init 19 = .ok (.dup, 1)) rfl ?_
  refine WW.mono (kc := 0 + rmX0_init.cells) (ks := 0 + rmX0_init.slots) (Nat.le_of_ble_eq_true rfl) (Nat.le_of_ble_eq_true rfl) (q_cI hB [] [.ref (b + x9.1), .ref (b + l0)] (own := "PulseRemote$Learner") rfl cmX0_init hiX0_init rfl (Or.inr ⟨_, k_295⟩) (by decide) rfl (Nat.le_of_ble_eq_true rfl) (by decide +kernel : decode cX4_init 20 = .ok (.invokespecial 11, 3)) (fun z hz => m_X0_init _ _ _ _ hz) rfl hf (fun z11 hf => ?_))
  refine q_pR hB cf4 1 (by decide) (own := "PulseRemote$Learner") rfl (Or.inl k_319) (Or.inr ⟨rfl, rfl, rfl, k_319⟩) (by decide +kernel) (by decide +kernel : decode cX4_init 23 = .ok (.putfield 18, 3)) hf (fun m12 hf => ?_)
  obtain rfl := Option.some.inj hf
  exact r_vret hB (by decide +kernel : decode cX4_init 26 = .ok (.return_, 1))
theorem m_X4_init (l : Launch) (D : va_G) (cy : Nat → ClassId) (b : Nat) {l0 : Nat} {s z : LMm} (hf : g_X4_init l0 s = some z) : Met l yX4_init (.code yX4_init cX4_init 1 none :: GW) rmX4_init (Pw D cy b [.ref (b + l0)] (mkM s)) (Qw D cy b none (mkM z)) rmX4_init.cells rmX4_init.slots (fun q => b ≤ q) :=
  met_of (by decide) (Nat.le_of_ble_eq_true rfl) (fun X hB _ => t_X4_init hB hf)
def g_X1_init (l0 : Nat) (s : LMm) : Option LMm :=
  (nO1 s 10).bind fun x4 =>
  (g_X10_init x4.1 x4.2).bind fun z6 =>
  (pR1 z6 1 l0 0 x4.1).bind fun m7 =>
  (nO1 m7 10).bind fun x9 =>
  (g_X10_init x9.1 x9.2).bind fun z11 =>
  (pR1 z11 1 l0 1 x9.1).bind fun m12 =>
  some m12
set_option maxHeartbeats 4000000 in
set_option maxRecDepth 100000 in
theorem t_X1_init {X : BX} {D : va_G} {cy : Nat → ClassId} {b : Nat} (hB : BB X D cy b yX1_init cX1_init 1 none rmX1_init) {l0 : Nat} {s z : LMm} (hf : g_X1_init l0 s = some z) : WW X D cy b none (mkM z) 1 4 404 0 [(0, .ref (b + l0))] [] (mkM s) := by
  unfold g_X1_init at hf
  refine r_aload_n hB 0 rfl (by decide +kernel : decode cX1_init 0 = .ok (.aload_n 0, 1)) rfl ?_
  refine r_objInit hB (own := "PulseRemote$Collision") rfl k_361 k_42 k_43 (by decide +kernel : decode cX1_init 1 = .ok (.invokespecial 3, 3)) (by decide) (Nat.le_of_ble_eq_true rfl) ?_
  refine r_aload_n hB 0 rfl (by decide +kernel : decode cX1_init 4 = .ok (.aload_n 0, 1)) rfl ?_
  refine WW.mono (kc := 3 + 1) (ks := 402 + 2) (Nat.le_of_ble_eq_true rfl) (Nat.le_of_ble_eq_true rfl) (q_new hB cf10 (by decide) (own := "PulseRemote$Collision") rfl k_362 k_132 k_26 (by decide +kernel : decode cX1_init 5 = .ok (.new 9, 3)) hf (fun x4 hf => ?_))
  refine r_dup hB (by decide +kernel : decode cX1_init 8 = .ok (.dup, 1)) rfl ?_
  refine WW.mono (kc := 2 + rmX10_init.cells) (ks := 202 + rmX10_init.slots) (Nat.le_of_ble_eq_true rfl) (Nat.le_of_ble_eq_true rfl) (q_cI hB [] [.ref (b + x4.1), .ref (b + l0)] (own := "PulseRemote$Collision") rfl cmX10_init hiX10_init rfl (Or.inr ⟨_, k_363⟩) (by decide) rfl (Nat.le_of_ble_eq_true rfl) (by decide +kernel : decode cX1_init 9 = .ok (.invokespecial 11, 3)) (fun z hz => m_X10_init _ _ _ _ hz) rfl hf (fun z6 hf => ?_))
  refine q_pR hB cf1 0 (by decide) (own := "PulseRemote$Collision") rfl (Or.inl k_364) (Or.inr ⟨rfl, rfl, rfl, k_364⟩) (by decide +kernel) (by decide +kernel : decode cX1_init 12 = .ok (.putfield 12, 3)) hf (fun m7 hf => ?_)
  refine r_aload_n hB 0 rfl (by decide +kernel : decode cX1_init 15 = .ok (.aload_n 0, 1)) rfl ?_
  refine WW.mono (kc := 1 + 1) (ks := 200 + 2) (Nat.le_of_ble_eq_true rfl) (Nat.le_of_ble_eq_true rfl) (q_new hB cf10 (by decide) (own := "PulseRemote$Collision") rfl k_362 k_132 k_26 (by decide +kernel : decode cX1_init 16 = .ok (.new 9, 3)) hf (fun x9 hf => ?_))
  refine r_dup hB (by decide +kernel : decode cX1_init 19 = .ok (.dup, 1)) rfl ?_
  refine WW.mono (kc := 0 + rmX10_init.cells) (ks := 0 + rmX10_init.slots) (Nat.le_of_ble_eq_true rfl) (Nat.le_of_ble_eq_true rfl) (q_cI hB [] [.ref (b + x9.1), .ref (b + l0)] (own := "PulseRemote$Collision") rfl cmX10_init hiX10_init rfl (Or.inr ⟨_, k_363⟩) (by decide) rfl (Nat.le_of_ble_eq_true rfl) (by decide +kernel : decode cX1_init 20 = .ok (.invokespecial 11, 3)) (fun z hz => m_X10_init _ _ _ _ hz) rfl hf (fun z11 hf => ?_))
  refine q_pR hB cf1 1 (by decide) (own := "PulseRemote$Collision") rfl (Or.inl k_365) (Or.inr ⟨rfl, rfl, rfl, k_365⟩) (by decide +kernel) (by decide +kernel : decode cX1_init 23 = .ok (.putfield 18, 3)) hf (fun m12 hf => ?_)
  obtain rfl := Option.some.inj hf
  exact r_vret hB (by decide +kernel : decode cX1_init 26 = .ok (.return_, 1))
theorem m_X1_init (l : Launch) (D : va_G) (cy : Nat → ClassId) (b : Nat) {l0 : Nat} {s z : LMm} (hf : g_X1_init l0 s = some z) : Met l yX1_init (.code yX1_init cX1_init 1 none :: GW) rmX1_init (Pw D cy b [.ref (b + l0)] (mkM s)) (Qw D cy b none (mkM z)) rmX1_init.cells rmX1_init.slots (fun q => b ≤ q) :=
  met_of (by decide) (Nat.le_of_ble_eq_true rfl) (fun X hB _ => t_X1_init hB hf)
def g_X11_init (l0 : Nat) (s : LMm) : Option LMm :=
  (nO1 s 7).bind fun x4 =>
  (g_X7_init x4.1 x4.2).bind fun z6 =>
  (pR1 z6 11 l0 0 x4.1).bind fun m7 =>
  (nA1 m7 19 6).bind fun x10 =>
  (pR1 x10.2 11 l0 1 x10.1).bind fun m11 =>
  (nO1 m11 9).bind fun x13 =>
  (g_X9_init x13.1 x13.2).bind fun z15 =>
  (pR1 z15 11 l0 3 x13.1).bind fun m16 =>
  (nO1 m16 8).bind fun x18 =>
  (g_X8_init x18.1 x18.2).bind fun z20 =>
  (pR1 z20 11 l0 4 x18.1).bind fun m21 =>
  (nO1 m21 10).bind fun x23 =>
  (g_X10_init x23.1 x23.2).bind fun z25 =>
  (pR1 z25 11 l0 5 x23.1).bind fun m26 =>
  (nA1 m26 20 12).bind fun x29 =>
  (pR1 x29.2 11 l0 6 x29.1).bind fun m30 =>
  (nO1 m30 3).bind fun x32 =>
  (g_X3_init x32.1 x32.2).bind fun z34 =>
  (pR1 z34 11 l0 7 x32.1).bind fun m35 =>
  (nO1 m35 2).bind fun x37 =>
  (g_X2_init x37.1 x37.2).bind fun z39 =>
  (pR1 z39 11 l0 8 x37.1).bind fun m40 =>
  (nO1 m40 5).bind fun x42 =>
  (g_X5_init x42.1 x42.2).bind fun z44 =>
  (pR1 z44 11 l0 9 x42.1).bind fun m45 =>
  (nO1 m45 4).bind fun x47 =>
  (g_X4_init x47.1 x47.2).bind fun z49 =>
  (pR1 z49 11 l0 10 x47.1).bind fun m50 =>
  (nO1 m50 1).bind fun x52 =>
  (g_X1_init x52.1 x52.2).bind fun z54 =>
  (pR1 z54 11 l0 11 x52.1).bind fun m55 =>
  (gR1 m55 11 l0 1).bind fun x62 =>
  (nO1 m55 7).bind fun x64 =>
  (g_X7_init x64.1 x64.2).bind fun z66 =>
  (sR1 z66 19 7 x62 0 x64.1).bind fun m67 =>
  (gR1 m67 11 l0 1).bind fun x74 =>
  (nO1 m67 7).bind fun x76 =>
  (g_X7_init x76.1 x76.2).bind fun z78 =>
  (sR1 z78 19 7 x74 1 x76.1).bind fun m79 =>
  (gR1 m79 11 l0 1).bind fun x86 =>
  (nO1 m79 7).bind fun x88 =>
  (g_X7_init x88.1 x88.2).bind fun z90 =>
  (sR1 z90 19 7 x86 2 x88.1).bind fun m91 =>
  (gR1 m91 11 l0 1).bind fun x98 =>
  (nO1 m91 7).bind fun x100 =>
  (g_X7_init x100.1 x100.2).bind fun z102 =>
  (sR1 z102 19 7 x98 3 x100.1).bind fun m103 =>
  (gR1 m103 11 l0 1).bind fun x110 =>
  (nO1 m103 7).bind fun x112 =>
  (g_X7_init x112.1 x112.2).bind fun z114 =>
  (sR1 z114 19 7 x110 4 x112.1).bind fun m115 =>
  (gR1 m115 11 l0 1).bind fun x122 =>
  (nO1 m115 7).bind fun x124 =>
  (g_X7_init x124.1 x124.2).bind fun z126 =>
  (sR1 z126 19 7 x122 5 x124.1).bind fun m127 =>
  (gR1 m127 11 l0 6).bind fun x139 =>
  (nO1 m127 10).bind fun x141 =>
  (g_X10_init x141.1 x141.2).bind fun z143 =>
  (sR1 z143 20 10 x139 0 x141.1).bind fun m144 =>
  (gR1 m144 11 l0 6).bind fun x151 =>
  (nO1 m144 10).bind fun x153 =>
  (g_X10_init x153.1 x153.2).bind fun z155 =>
  (sR1 z155 20 10 x151 1 x153.1).bind fun m156 =>
  (gR1 m156 11 l0 6).bind fun x163 =>
  (nO1 m156 10).bind fun x165 =>
  (g_X10_init x165.1 x165.2).bind fun z167 =>
  (sR1 z167 20 10 x163 2 x165.1).bind fun m168 =>
  (gR1 m168 11 l0 6).bind fun x175 =>
  (nO1 m168 10).bind fun x177 =>
  (g_X10_init x177.1 x177.2).bind fun z179 =>
  (sR1 z179 20 10 x175 3 x177.1).bind fun m180 =>
  (gR1 m180 11 l0 6).bind fun x187 =>
  (nO1 m180 10).bind fun x189 =>
  (g_X10_init x189.1 x189.2).bind fun z191 =>
  (sR1 z191 20 10 x187 4 x189.1).bind fun m192 =>
  (gR1 m192 11 l0 6).bind fun x199 =>
  (nO1 m192 10).bind fun x201 =>
  (g_X10_init x201.1 x201.2).bind fun z203 =>
  (sR1 z203 20 10 x199 5 x201.1).bind fun m204 =>
  (gR1 m204 11 l0 6).bind fun x211 =>
  (nO1 m204 10).bind fun x213 =>
  (g_X10_init x213.1 x213.2).bind fun z215 =>
  (sR1 z215 20 10 x211 6 x213.1).bind fun m216 =>
  (gR1 m216 11 l0 6).bind fun x223 =>
  (nO1 m216 10).bind fun x225 =>
  (g_X10_init x225.1 x225.2).bind fun z227 =>
  (sR1 z227 20 10 x223 7 x225.1).bind fun m228 =>
  (gR1 m228 11 l0 6).bind fun x235 =>
  (nO1 m228 10).bind fun x237 =>
  (g_X10_init x237.1 x237.2).bind fun z239 =>
  (sR1 z239 20 10 x235 8 x237.1).bind fun m240 =>
  (gR1 m240 11 l0 6).bind fun x247 =>
  (nO1 m240 10).bind fun x249 =>
  (g_X10_init x249.1 x249.2).bind fun z251 =>
  (sR1 z251 20 10 x247 9 x249.1).bind fun m252 =>
  (gR1 m252 11 l0 6).bind fun x259 =>
  (nO1 m252 10).bind fun x261 =>
  (g_X10_init x261.1 x261.2).bind fun z263 =>
  (sR1 z263 20 10 x259 10 x261.1).bind fun m264 =>
  (gR1 m264 11 l0 6).bind fun x271 =>
  (nO1 m264 10).bind fun x273 =>
  (g_X10_init x273.1 x273.2).bind fun z275 =>
  (sR1 z275 20 10 x271 11 x273.1).bind fun m276 =>
  some m276
set_option maxHeartbeats 4000000 in
set_option maxRecDepth 100000 in
theorem t_X11_init {X : BX} {D : va_G} {cy : Nat → ClassId} {b : Nat} (hB : BB X D cy b yX11_init cX11_init 2 none rmX11_init) {l0 : Nat} {s z : LMm} (hf : g_X11_init l0 s = some z) : WW X D cy b none (mkM z) 2 188 9215 0 [(0, .ref (b + l0))] [] (mkM s) := by
  unfold g_X11_init at hf
  refine r_aload_n hB 0 rfl (by decide +kernel : decode cX11_init 0 = .ok (.aload_n 0, 1)) rfl ?_
  refine r_objInit hB (own := "PulseRemote") rfl k_41 k_42 k_43 (by decide +kernel : decode cX11_init 1 = .ok (.invokespecial 3, 3)) (by decide) (Nat.le_of_ble_eq_true rfl) ?_
  refine r_aload_n hB 0 rfl (by decide +kernel : decode cX11_init 4 = .ok (.aload_n 0, 1)) rfl ?_
  refine WW.mono (kc := 187 + 1) (ks := 9210 + 5) (Nat.le_of_ble_eq_true rfl) (Nat.le_of_ble_eq_true rfl) (q_new hB cf7 (by decide) (own := "PulseRemote") rfl k_44 k_45 k_23 (by decide +kernel : decode cX11_init 5 = .ok (.new 9, 3)) hf (fun x4 hf => ?_))
  refine r_dup hB (by decide +kernel : decode cX11_init 8 = .ok (.dup, 1)) rfl ?_
  refine WW.mono (kc := 170 + rmX7_init.cells) (ks := 8512 + rmX7_init.slots) (Nat.le_of_ble_eq_true rfl) (Nat.le_of_ble_eq_true rfl) (q_cI hB [] [.ref (b + x4.1), .ref (b + l0)] (own := "PulseRemote") rfl cmX7_init hiX7_init rfl (Or.inl k_46) (by decide) rfl (Nat.le_of_ble_eq_true rfl) (by decide +kernel : decode cX11_init 9 = .ok (.invokespecial 11, 3)) (fun z hz => m_X7_init _ _ _ _ hz) rfl hf (fun z6 hf => ?_))
  refine q_pR hB cf11 0 (by decide) (own := "PulseRemote") rfl (Or.inl k_395) (Or.inl rfl) (by decide +kernel) (by decide +kernel : decode cX11_init 12 = .ok (.putfield 12, 3)) hf (fun m7 hf => ?_)
  refine r_aload_n hB 0 rfl (by decide +kernel : decode cX11_init 15 = .ok (.aload_n 0, 1)) rfl ?_
  refine r_bipush hB (v := 6) (by decide +kernel : decode cX11_init 16 = .ok (.bipush 6, 2)) (by decide +kernel) ?_
  refine WW.mono (kc := 169 + 1) (ks := 8506 + 6) (Nat.le_of_ble_eq_true rfl) (Nat.le_of_ble_eq_true rfl) (q_newR hB (t := 19) (C := RX7) (Or.inr (Or.inl ⟨rfl, rfl⟩)) (own := "PulseRemote") rfl k_44 (by decide +kernel) (by decide +kernel) (Nat.le_of_ble_eq_true rfl) (by decide +kernel : decode cX11_init 18 = .ok (.anewarray 9, 3)) hf (fun x10 hf => ?_))
  refine q_pR hB cf11 1 (by decide) (own := "PulseRemote") rfl (Or.inl k_396) (Or.inr ⟨rfl, rfl, rfl, k_396⟩) (by decide +kernel) (by decide +kernel : decode cX11_init 21 = .ok (.putfield 16, 3)) hf (fun m11 hf => ?_)
  refine r_aload_n hB 0 rfl (by decide +kernel : decode cX11_init 24 = .ok (.aload_n 0, 1)) rfl ?_
  refine WW.mono (kc := 168 + 1) (ks := 8501 + 5) (Nat.le_of_ble_eq_true rfl) (Nat.le_of_ble_eq_true rfl) (q_new hB cf9 (by decide) (own := "PulseRemote") rfl k_173 k_174 k_27 (by decide +kernel : decode cX11_init 25 = .ok (.new 20, 3)) hf (fun x13 hf => ?_))
  refine r_dup hB (by decide +kernel : decode cX11_init 28 = .ok (.dup, 1)) rfl ?_
  refine WW.mono (kc := 167 + rmX9_init.cells) (ks := 8341 + rmX9_init.slots) (Nat.le_of_ble_eq_true rfl) (Nat.le_of_ble_eq_true rfl) (q_cI hB [] [.ref (b + x13.1), .ref (b + l0)] (own := "PulseRemote") rfl cmX9_init hiX9_init rfl (Or.inr ⟨_, k_175⟩) (by decide) rfl (Nat.le_of_ble_eq_true rfl) (by decide +kernel : decode cX11_init 29 = .ok (.invokespecial 22, 3)) (fun z hz => m_X9_init _ _ _ _ hz) rfl hf (fun z15 hf => ?_))
  refine q_pR hB cf11 3 (by decide) (own := "PulseRemote") rfl (Or.inl k_398) (Or.inr ⟨rfl, rfl, rfl, k_398⟩) (by decide +kernel) (by decide +kernel : decode cX11_init 32 = .ok (.putfield 23, 3)) hf (fun m16 hf => ?_)
  refine r_aload_n hB 0 rfl (by decide +kernel : decode cX11_init 35 = .ok (.aload_n 0, 1)) rfl ?_
  refine WW.mono (kc := 166 + 1) (ks := 8336 + 5) (Nat.le_of_ble_eq_true rfl) (Nat.le_of_ble_eq_true rfl) (q_new hB cf8 (by decide) (own := "PulseRemote") rfl k_193 k_51 k_24 (by decide +kernel : decode cX11_init 36 = .ok (.new 27, 3)) hf (fun x18 hf => ?_))
  refine r_dup hB (by decide +kernel : decode cX11_init 39 = .ok (.dup, 1)) rfl ?_
  refine WW.mono (kc := 157 + rmX8_init.cells) (ks := 8252 + rmX8_init.slots) (Nat.le_of_ble_eq_true rfl) (Nat.le_of_ble_eq_true rfl) (q_cI hB [] [.ref (b + x18.1), .ref (b + l0)] (own := "PulseRemote") rfl cmX8_init hiX8_init rfl (Or.inl k_194) (by decide) rfl (Nat.le_of_ble_eq_true rfl) (by decide +kernel : decode cX11_init 40 = .ok (.invokespecial 29, 3)) (fun z hz => m_X8_init _ _ _ _ hz) rfl hf (fun z20 hf => ?_))
  refine q_pR hB cf11 4 (by decide) (own := "PulseRemote") rfl (Or.inl k_399) (Or.inr ⟨rfl, rfl, rfl, k_399⟩) (by decide +kernel) (by decide +kernel : decode cX11_init 43 = .ok (.putfield 30, 3)) hf (fun m21 hf => ?_)
  refine r_aload_n hB 0 rfl (by decide +kernel : decode cX11_init 46 = .ok (.aload_n 0, 1)) rfl ?_
  refine WW.mono (kc := 156 + 1) (ks := 8250 + 2) (Nat.le_of_ble_eq_true rfl) (Nat.le_of_ble_eq_true rfl) (q_new hB cf10 (by decide) (own := "PulseRemote") rfl k_195 k_132 k_26 (by decide +kernel : decode cX11_init 47 = .ok (.new 34, 3)) hf (fun x23 hf => ?_))
  refine r_dup hB (by decide +kernel : decode cX11_init 50 = .ok (.dup, 1)) rfl ?_
  refine WW.mono (kc := 155 + rmX10_init.cells) (ks := 8050 + rmX10_init.slots) (Nat.le_of_ble_eq_true rfl) (Nat.le_of_ble_eq_true rfl) (q_cI hB [] [.ref (b + x23.1), .ref (b + l0)] (own := "PulseRemote") rfl cmX10_init hiX10_init rfl (Or.inr ⟨_, k_196⟩) (by decide) rfl (Nat.le_of_ble_eq_true rfl) (by decide +kernel : decode cX11_init 51 = .ok (.invokespecial 36, 3)) (fun z hz => m_X10_init _ _ _ _ hz) rfl hf (fun z25 hf => ?_))
  refine q_pR hB cf11 5 (by decide) (own := "PulseRemote") rfl (Or.inl k_400) (Or.inr ⟨rfl, rfl, rfl, k_400⟩) (by decide +kernel) (by decide +kernel : decode cX11_init 54 = .ok (.putfield 37, 3)) hf (fun m26 hf => ?_)
  refine r_aload_n hB 0 rfl (by decide +kernel : decode cX11_init 57 = .ok (.aload_n 0, 1)) rfl ?_
  refine r_bipush hB (v := 12) (by decide +kernel : decode cX11_init 58 = .ok (.bipush 12, 2)) (by decide +kernel) ?_
  refine WW.mono (kc := 154 + 1) (ks := 8038 + 12) (Nat.le_of_ble_eq_true rfl) (Nat.le_of_ble_eq_true rfl) (q_newR hB (t := 20) (C := RX10) (Or.inr (Or.inr ⟨rfl, rfl⟩)) (own := "PulseRemote") rfl k_195 (by decide +kernel) (by decide +kernel) (Nat.le_of_ble_eq_true rfl) (by decide +kernel : decode cX11_init 60 = .ok (.anewarray 34, 3)) hf (fun x29 hf => ?_))
  refine q_pR hB cf11 6 (by decide) (own := "PulseRemote") rfl (Or.inl k_401) (Or.inr ⟨rfl, rfl, rfl, k_401⟩) (by decide +kernel) (by decide +kernel : decode cX11_init 63 = .ok (.putfield 41, 3)) hf (fun m30 hf => ?_)
  refine r_aload_n hB 0 rfl (by decide +kernel : decode cX11_init 66 = .ok (.aload_n 0, 1)) rfl ?_
  refine WW.mono (kc := 153 + 1) (ks := 8034 + 4) (Nat.le_of_ble_eq_true rfl) (Nat.le_of_ble_eq_true rfl) (q_new hB cf3 (by decide) (own := "PulseRemote") rfl k_197 k_198 k_28 (by decide +kernel : decode cX11_init 67 = .ok (.new 45, 3)) hf (fun x32 hf => ?_))
  refine r_dup hB (by decide +kernel : decode cX11_init 70 = .ok (.dup, 1)) rfl ?_
  refine WW.mono (kc := 149 + rmX3_init.cells) (ks := 7632 + rmX3_init.slots) (Nat.le_of_ble_eq_true rfl) (Nat.le_of_ble_eq_true rfl) (q_cI hB [] [.ref (b + x32.1), .ref (b + l0)] (own := "PulseRemote") rfl cmX3_init hiX3_init rfl (Or.inr ⟨_, k_199⟩) (by decide) rfl (Nat.le_of_ble_eq_true rfl) (by decide +kernel : decode cX11_init 71 = .ok (.invokespecial 47, 3)) (fun z hz => m_X3_init _ _ _ _ hz) rfl hf (fun z34 hf => ?_))
  refine q_pR hB cf11 7 (by decide) (own := "PulseRemote") rfl (Or.inl k_402) (Or.inr ⟨rfl, rfl, rfl, k_402⟩) (by decide +kernel) (by decide +kernel : decode cX11_init 74 = .ok (.putfield 48, 3)) hf (fun m35 hf => ?_)
  refine r_aload_n hB 0 rfl (by decide +kernel : decode cX11_init 77 = .ok (.aload_n 0, 1)) rfl ?_
  refine WW.mono (kc := 148 + 1) (ks := 7626 + 6) (Nat.le_of_ble_eq_true rfl) (Nat.le_of_ble_eq_true rfl) (q_new hB cf2 (by decide) (own := "PulseRemote") rfl k_221 k_222 k_29 (by decide +kernel : decode cX11_init 78 = .ok (.new 52, 3)) hf (fun x37 hf => ?_))
  refine r_dup hB (by decide +kernel : decode cX11_init 81 = .ok (.dup, 1)) rfl ?_
  refine WW.mono (kc := 146 + rmX2_init.cells) (ks := 7574 + rmX2_init.slots) (Nat.le_of_ble_eq_true rfl) (Nat.le_of_ble_eq_true rfl) (q_cI hB [] [.ref (b + x37.1), .ref (b + l0)] (own := "PulseRemote") rfl cmX2_init hiX2_init rfl (Or.inr ⟨_, k_223⟩) (by decide) rfl (Nat.le_of_ble_eq_true rfl) (by decide +kernel : decode cX11_init 82 = .ok (.invokespecial 54, 3)) (fun z hz => m_X2_init _ _ _ _ hz) rfl hf (fun z39 hf => ?_))
  refine q_pR hB cf11 8 (by decide) (own := "PulseRemote") rfl (Or.inl k_403) (Or.inr ⟨rfl, rfl, rfl, k_403⟩) (by decide +kernel) (by decide +kernel : decode cX11_init 85 = .ok (.putfield 55, 3)) hf (fun m40 hf => ?_)
  refine r_aload_n hB 0 rfl (by decide +kernel : decode cX11_init 88 = .ok (.aload_n 0, 1)) rfl ?_
  refine WW.mono (kc := 145 + 1) (ks := 7566 + 8) (Nat.le_of_ble_eq_true rfl) (Nat.le_of_ble_eq_true rfl) (q_new hB cf5 (by decide) (own := "PulseRemote") rfl k_251 k_252 k_30 (by decide +kernel : decode cX11_init 89 = .ok (.new 59, 3)) hf (fun x42 hf => ?_))
  refine r_dup hB (by decide +kernel : decode cX11_init 92 = .ok (.dup, 1)) rfl ?_
  refine WW.mono (kc := 142 + rmX5_init.cells) (ks := 7476 + rmX5_init.slots) (Nat.le_of_ble_eq_true rfl) (Nat.le_of_ble_eq_true rfl) (q_cI hB [] [.ref (b + x42.1), .ref (b + l0)] (own := "PulseRemote") rfl cmX5_init hiX5_init rfl (Or.inr ⟨_, k_253⟩) (by decide) rfl (Nat.le_of_ble_eq_true rfl) (by decide +kernel : decode cX11_init 93 = .ok (.invokespecial 61, 3)) (fun z hz => m_X5_init _ _ _ _ hz) rfl hf (fun z44 hf => ?_))
  refine q_pR hB cf11 9 (by decide) (own := "PulseRemote") rfl (Or.inl k_404) (Or.inr ⟨rfl, rfl, rfl, k_404⟩) (by decide +kernel) (by decide +kernel : decode cX11_init 96 = .ok (.putfield 62, 3)) hf (fun m45 hf => ?_)
  refine r_aload_n hB 0 rfl (by decide +kernel : decode cX11_init 99 = .ok (.aload_n 0, 1)) rfl ?_
  refine WW.mono (kc := 141 + 1) (ks := 7466 + 10) (Nat.le_of_ble_eq_true rfl) (Nat.le_of_ble_eq_true rfl) (q_new hB cf4 (by decide) (own := "PulseRemote") rfl k_287 k_288 k_31 (by decide +kernel : decode cX11_init 100 = .ok (.new 66, 3)) hf (fun x47 hf => ?_))
  refine r_dup hB (by decide +kernel : decode cX11_init 103 = .ok (.dup, 1)) rfl ?_
  refine WW.mono (kc := 137 + rmX4_init.cells) (ks := 7056 + rmX4_init.slots) (Nat.le_of_ble_eq_true rfl) (Nat.le_of_ble_eq_true rfl) (q_cI hB [] [.ref (b + x47.1), .ref (b + l0)] (own := "PulseRemote") rfl cmX4_init hiX4_init rfl (Or.inr ⟨_, k_289⟩) (by decide) rfl (Nat.le_of_ble_eq_true rfl) (by decide +kernel : decode cX11_init 104 = .ok (.invokespecial 68, 3)) (fun z hz => m_X4_init _ _ _ _ hz) rfl hf (fun z49 hf => ?_))
  refine q_pR hB cf11 10 (by decide) (own := "PulseRemote") rfl (Or.inl k_405) (Or.inr ⟨rfl, rfl, rfl, k_405⟩) (by decide +kernel) (by decide +kernel : decode cX11_init 107 = .ok (.putfield 69, 3)) hf (fun m50 hf => ?_)
  refine r_aload_n hB 0 rfl (by decide +kernel : decode cX11_init 110 = .ok (.aload_n 0, 1)) rfl ?_
  refine WW.mono (kc := 136 + 1) (ks := 7046 + 10) (Nat.le_of_ble_eq_true rfl) (Nat.le_of_ble_eq_true rfl) (q_new hB cf1 (by decide) (own := "PulseRemote") rfl k_356 k_357 k_33 (by decide +kernel : decode cX11_init 111 = .ok (.new 73, 3)) hf (fun x52 hf => ?_))
  refine r_dup hB (by decide +kernel : decode cX11_init 114 = .ok (.dup, 1)) rfl ?_
  refine WW.mono (kc := 132 + rmX1_init.cells) (ks := 6642 + rmX1_init.slots) (Nat.le_of_ble_eq_true rfl) (Nat.le_of_ble_eq_true rfl) (q_cI hB [] [.ref (b + x52.1), .ref (b + l0)] (own := "PulseRemote") rfl cmX1_init hiX1_init rfl (Or.inr ⟨_, k_358⟩) (by decide) rfl (Nat.le_of_ble_eq_true rfl) (by decide +kernel : decode cX11_init 115 = .ok (.invokespecial 75, 3)) (fun z hz => m_X1_init _ _ _ _ hz) rfl hf (fun z54 hf => ?_))
  refine q_pR hB cf11 11 (by decide) (own := "PulseRemote") rfl (Or.inl k_406) (Or.inr ⟨rfl, rfl, rfl, k_406⟩) (by decide +kernel) (by decide +kernel : decode cX11_init 118 = .ok (.putfield 76, 3)) hf (fun m55 hf => ?_)
  refine r_iconst hB (v := 0) (by decide +kernel : decode cX11_init 121 = .ok (.iconst 0, 1)) (by decide +kernel) ?_
  refine r_istore_n hB (by decide +kernel : decode cX11_init 122 = .ok (.istore_n 1, 1)) rfl (by decide) rfl ?_
  refine ww_lv (lv' := [(1, .int 0), (0, .ref (b + l0))]) rfl ?_
  refine r_iload_n hB 0 rfl (by decide +kernel : decode cX11_init 123 = .ok (.iload_n 1, 1)) rfl ?_
  refine r_bipush hB (v := 6) (by decide +kernel : decode cX11_init 124 = .ok (.bipush 6, 2)) (by decide +kernel) ?_
  refine r_icmp_ge hB (tgt := 148) (by decide +kernel : decode cX11_init 126 = .ok (.if_icmp .ge 22, 3)) (by decide) (show (if (6 : Int32) ≤ 0 then (none : Option Unit) else some ()) = some () by decide +kernel) (fun _ h => nomatch h) (fun _ _ => ?_)
  refine r_aload_n hB 1 rfl (by decide +kernel : decode cX11_init 129 = .ok (.aload_n 0, 1)) rfl ?_
  refine q_gR hB cf11 1 (by decide) (own := "PulseRemote") rfl (Or.inl k_396) (by decide +kernel) (by decide +kernel : decode cX11_init 130 = .ok (.getfield 16, 3)) hf (fun x62 hf => ?_)
  refine r_iload_n hB 0 rfl (by decide +kernel : decode cX11_init 133 = .ok (.iload_n 1, 1)) rfl ?_
  refine WW.mono (kc := 131 + 1) (ks := 6637 + 5) (Nat.le_of_ble_eq_true rfl) (Nat.le_of_ble_eq_true rfl) (q_new hB cf7 (by decide) (own := "PulseRemote") rfl k_44 k_45 k_23 (by decide +kernel : decode cX11_init 134 = .ok (.new 9, 3)) hf (fun x64 hf => ?_))
  refine r_dup hB (by decide +kernel : decode cX11_init 137 = .ok (.dup, 1)) rfl ?_
  refine WW.mono (kc := 114 + rmX7_init.cells) (ks := 5939 + rmX7_init.slots) (Nat.le_of_ble_eq_true rfl) (Nat.le_of_ble_eq_true rfl) (q_cI hB [] [.ref (b + x64.1), .int 0, .ref (b + x62)] (own := "PulseRemote") rfl cmX7_init hiX7_init rfl (Or.inl k_46) (by decide) rfl (Nat.le_of_ble_eq_true rfl) (by decide +kernel : decode cX11_init 138 = .ok (.invokespecial 11, 3)) (fun z hz => m_X7_init _ _ _ _ hz) rfl hf (fun z66 hf => ?_))
  refine q_aast hB (t := 19) (C := RX7) cf7 (Or.inr (Or.inl ⟨rfl, rfl⟩)) (by decide +kernel : decode cX11_init 141 = .ok (.aastore, 1)) hf (fun m67 hf => ?_)
  refine r_iinc hB (v := 1) 0 rfl (by decide +kernel : decode cX11_init 142 = .ok (.iinc 1 1, 3)) (by decide +kernel) (by decide) rfl ?_
  refine ww_lv (lv' := [(1, .int 1), (0, .ref (b + l0))]) rfl ?_
  refine r_goto hB (tgt := 123) (by decide +kernel : decode cX11_init 145 = .ok (.goto (-22), 3)) (by decide) ?_
  refine r_iload_n hB 0 rfl (by decide +kernel : decode cX11_init 123 = .ok (.iload_n 1, 1)) rfl ?_
  refine r_bipush hB (v := 6) (by decide +kernel : decode cX11_init 124 = .ok (.bipush 6, 2)) (by decide +kernel) ?_
  refine r_icmp_ge hB (tgt := 148) (by decide +kernel : decode cX11_init 126 = .ok (.if_icmp .ge 22, 3)) (by decide) (show (if (6 : Int32) ≤ 1 then (none : Option Unit) else some ()) = some () by decide +kernel) (fun _ h => nomatch h) (fun _ _ => ?_)
  refine r_aload_n hB 1 rfl (by decide +kernel : decode cX11_init 129 = .ok (.aload_n 0, 1)) rfl ?_
  refine q_gR hB cf11 1 (by decide) (own := "PulseRemote") rfl (Or.inl k_396) (by decide +kernel) (by decide +kernel : decode cX11_init 130 = .ok (.getfield 16, 3)) hf (fun x74 hf => ?_)
  refine r_iload_n hB 0 rfl (by decide +kernel : decode cX11_init 133 = .ok (.iload_n 1, 1)) rfl ?_
  refine WW.mono (kc := 113 + 1) (ks := 5934 + 5) (Nat.le_of_ble_eq_true rfl) (Nat.le_of_ble_eq_true rfl) (q_new hB cf7 (by decide) (own := "PulseRemote") rfl k_44 k_45 k_23 (by decide +kernel : decode cX11_init 134 = .ok (.new 9, 3)) hf (fun x76 hf => ?_))
  refine r_dup hB (by decide +kernel : decode cX11_init 137 = .ok (.dup, 1)) rfl ?_
  refine WW.mono (kc := 96 + rmX7_init.cells) (ks := 5236 + rmX7_init.slots) (Nat.le_of_ble_eq_true rfl) (Nat.le_of_ble_eq_true rfl) (q_cI hB [] [.ref (b + x76.1), .int 1, .ref (b + x74)] (own := "PulseRemote") rfl cmX7_init hiX7_init rfl (Or.inl k_46) (by decide) rfl (Nat.le_of_ble_eq_true rfl) (by decide +kernel : decode cX11_init 138 = .ok (.invokespecial 11, 3)) (fun z hz => m_X7_init _ _ _ _ hz) rfl hf (fun z78 hf => ?_))
  refine q_aast hB (t := 19) (C := RX7) cf7 (Or.inr (Or.inl ⟨rfl, rfl⟩)) (by decide +kernel : decode cX11_init 141 = .ok (.aastore, 1)) hf (fun m79 hf => ?_)
  refine r_iinc hB (v := 2) 0 rfl (by decide +kernel : decode cX11_init 142 = .ok (.iinc 1 1, 3)) (by decide +kernel) (by decide) rfl ?_
  refine ww_lv (lv' := [(1, .int 2), (0, .ref (b + l0))]) rfl ?_
  refine r_goto hB (tgt := 123) (by decide +kernel : decode cX11_init 145 = .ok (.goto (-22), 3)) (by decide) ?_
  refine r_iload_n hB 0 rfl (by decide +kernel : decode cX11_init 123 = .ok (.iload_n 1, 1)) rfl ?_
  refine r_bipush hB (v := 6) (by decide +kernel : decode cX11_init 124 = .ok (.bipush 6, 2)) (by decide +kernel) ?_
  refine r_icmp_ge hB (tgt := 148) (by decide +kernel : decode cX11_init 126 = .ok (.if_icmp .ge 22, 3)) (by decide) (show (if (6 : Int32) ≤ 2 then (none : Option Unit) else some ()) = some () by decide +kernel) (fun _ h => nomatch h) (fun _ _ => ?_)
  refine r_aload_n hB 1 rfl (by decide +kernel : decode cX11_init 129 = .ok (.aload_n 0, 1)) rfl ?_
  refine q_gR hB cf11 1 (by decide) (own := "PulseRemote") rfl (Or.inl k_396) (by decide +kernel) (by decide +kernel : decode cX11_init 130 = .ok (.getfield 16, 3)) hf (fun x86 hf => ?_)
  refine r_iload_n hB 0 rfl (by decide +kernel : decode cX11_init 133 = .ok (.iload_n 1, 1)) rfl ?_
  refine WW.mono (kc := 95 + 1) (ks := 5231 + 5) (Nat.le_of_ble_eq_true rfl) (Nat.le_of_ble_eq_true rfl) (q_new hB cf7 (by decide) (own := "PulseRemote") rfl k_44 k_45 k_23 (by decide +kernel : decode cX11_init 134 = .ok (.new 9, 3)) hf (fun x88 hf => ?_))
  refine r_dup hB (by decide +kernel : decode cX11_init 137 = .ok (.dup, 1)) rfl ?_
  refine WW.mono (kc := 78 + rmX7_init.cells) (ks := 4533 + rmX7_init.slots) (Nat.le_of_ble_eq_true rfl) (Nat.le_of_ble_eq_true rfl) (q_cI hB [] [.ref (b + x88.1), .int 2, .ref (b + x86)] (own := "PulseRemote") rfl cmX7_init hiX7_init rfl (Or.inl k_46) (by decide) rfl (Nat.le_of_ble_eq_true rfl) (by decide +kernel : decode cX11_init 138 = .ok (.invokespecial 11, 3)) (fun z hz => m_X7_init _ _ _ _ hz) rfl hf (fun z90 hf => ?_))
  refine q_aast hB (t := 19) (C := RX7) cf7 (Or.inr (Or.inl ⟨rfl, rfl⟩)) (by decide +kernel : decode cX11_init 141 = .ok (.aastore, 1)) hf (fun m91 hf => ?_)
  refine r_iinc hB (v := 3) 0 rfl (by decide +kernel : decode cX11_init 142 = .ok (.iinc 1 1, 3)) (by decide +kernel) (by decide) rfl ?_
  refine ww_lv (lv' := [(1, .int 3), (0, .ref (b + l0))]) rfl ?_
  refine r_goto hB (tgt := 123) (by decide +kernel : decode cX11_init 145 = .ok (.goto (-22), 3)) (by decide) ?_
  refine r_iload_n hB 0 rfl (by decide +kernel : decode cX11_init 123 = .ok (.iload_n 1, 1)) rfl ?_
  refine r_bipush hB (v := 6) (by decide +kernel : decode cX11_init 124 = .ok (.bipush 6, 2)) (by decide +kernel) ?_
  refine r_icmp_ge hB (tgt := 148) (by decide +kernel : decode cX11_init 126 = .ok (.if_icmp .ge 22, 3)) (by decide) (show (if (6 : Int32) ≤ 3 then (none : Option Unit) else some ()) = some () by decide +kernel) (fun _ h => nomatch h) (fun _ _ => ?_)
  refine r_aload_n hB 1 rfl (by decide +kernel : decode cX11_init 129 = .ok (.aload_n 0, 1)) rfl ?_
  refine q_gR hB cf11 1 (by decide) (own := "PulseRemote") rfl (Or.inl k_396) (by decide +kernel) (by decide +kernel : decode cX11_init 130 = .ok (.getfield 16, 3)) hf (fun x98 hf => ?_)
  refine r_iload_n hB 0 rfl (by decide +kernel : decode cX11_init 133 = .ok (.iload_n 1, 1)) rfl ?_
  refine WW.mono (kc := 77 + 1) (ks := 4528 + 5) (Nat.le_of_ble_eq_true rfl) (Nat.le_of_ble_eq_true rfl) (q_new hB cf7 (by decide) (own := "PulseRemote") rfl k_44 k_45 k_23 (by decide +kernel : decode cX11_init 134 = .ok (.new 9, 3)) hf (fun x100 hf => ?_))
  refine r_dup hB (by decide +kernel : decode cX11_init 137 = .ok (.dup, 1)) rfl ?_
  refine WW.mono (kc := 60 + rmX7_init.cells) (ks := 3830 + rmX7_init.slots) (Nat.le_of_ble_eq_true rfl) (Nat.le_of_ble_eq_true rfl) (q_cI hB [] [.ref (b + x100.1), .int 3, .ref (b + x98)] (own := "PulseRemote") rfl cmX7_init hiX7_init rfl (Or.inl k_46) (by decide) rfl (Nat.le_of_ble_eq_true rfl) (by decide +kernel : decode cX11_init 138 = .ok (.invokespecial 11, 3)) (fun z hz => m_X7_init _ _ _ _ hz) rfl hf (fun z102 hf => ?_))
  refine q_aast hB (t := 19) (C := RX7) cf7 (Or.inr (Or.inl ⟨rfl, rfl⟩)) (by decide +kernel : decode cX11_init 141 = .ok (.aastore, 1)) hf (fun m103 hf => ?_)
  refine r_iinc hB (v := 4) 0 rfl (by decide +kernel : decode cX11_init 142 = .ok (.iinc 1 1, 3)) (by decide +kernel) (by decide) rfl ?_
  refine ww_lv (lv' := [(1, .int 4), (0, .ref (b + l0))]) rfl ?_
  refine r_goto hB (tgt := 123) (by decide +kernel : decode cX11_init 145 = .ok (.goto (-22), 3)) (by decide) ?_
  refine r_iload_n hB 0 rfl (by decide +kernel : decode cX11_init 123 = .ok (.iload_n 1, 1)) rfl ?_
  refine r_bipush hB (v := 6) (by decide +kernel : decode cX11_init 124 = .ok (.bipush 6, 2)) (by decide +kernel) ?_
  refine r_icmp_ge hB (tgt := 148) (by decide +kernel : decode cX11_init 126 = .ok (.if_icmp .ge 22, 3)) (by decide) (show (if (6 : Int32) ≤ 4 then (none : Option Unit) else some ()) = some () by decide +kernel) (fun _ h => nomatch h) (fun _ _ => ?_)
  refine r_aload_n hB 1 rfl (by decide +kernel : decode cX11_init 129 = .ok (.aload_n 0, 1)) rfl ?_
  refine q_gR hB cf11 1 (by decide) (own := "PulseRemote") rfl (Or.inl k_396) (by decide +kernel) (by decide +kernel : decode cX11_init 130 = .ok (.getfield 16, 3)) hf (fun x110 hf => ?_)
  refine r_iload_n hB 0 rfl (by decide +kernel : decode cX11_init 133 = .ok (.iload_n 1, 1)) rfl ?_
  refine WW.mono (kc := 59 + 1) (ks := 3825 + 5) (Nat.le_of_ble_eq_true rfl) (Nat.le_of_ble_eq_true rfl) (q_new hB cf7 (by decide) (own := "PulseRemote") rfl k_44 k_45 k_23 (by decide +kernel : decode cX11_init 134 = .ok (.new 9, 3)) hf (fun x112 hf => ?_))
  refine r_dup hB (by decide +kernel : decode cX11_init 137 = .ok (.dup, 1)) rfl ?_
  refine WW.mono (kc := 42 + rmX7_init.cells) (ks := 3127 + rmX7_init.slots) (Nat.le_of_ble_eq_true rfl) (Nat.le_of_ble_eq_true rfl) (q_cI hB [] [.ref (b + x112.1), .int 4, .ref (b + x110)] (own := "PulseRemote") rfl cmX7_init hiX7_init rfl (Or.inl k_46) (by decide) rfl (Nat.le_of_ble_eq_true rfl) (by decide +kernel : decode cX11_init 138 = .ok (.invokespecial 11, 3)) (fun z hz => m_X7_init _ _ _ _ hz) rfl hf (fun z114 hf => ?_))
  refine q_aast hB (t := 19) (C := RX7) cf7 (Or.inr (Or.inl ⟨rfl, rfl⟩)) (by decide +kernel : decode cX11_init 141 = .ok (.aastore, 1)) hf (fun m115 hf => ?_)
  refine r_iinc hB (v := 5) 0 rfl (by decide +kernel : decode cX11_init 142 = .ok (.iinc 1 1, 3)) (by decide +kernel) (by decide) rfl ?_
  refine ww_lv (lv' := [(1, .int 5), (0, .ref (b + l0))]) rfl ?_
  refine r_goto hB (tgt := 123) (by decide +kernel : decode cX11_init 145 = .ok (.goto (-22), 3)) (by decide) ?_
  refine r_iload_n hB 0 rfl (by decide +kernel : decode cX11_init 123 = .ok (.iload_n 1, 1)) rfl ?_
  refine r_bipush hB (v := 6) (by decide +kernel : decode cX11_init 124 = .ok (.bipush 6, 2)) (by decide +kernel) ?_
  refine r_icmp_ge hB (tgt := 148) (by decide +kernel : decode cX11_init 126 = .ok (.if_icmp .ge 22, 3)) (by decide) (show (if (6 : Int32) ≤ 5 then (none : Option Unit) else some ()) = some () by decide +kernel) (fun _ h => nomatch h) (fun _ _ => ?_)
  refine r_aload_n hB 1 rfl (by decide +kernel : decode cX11_init 129 = .ok (.aload_n 0, 1)) rfl ?_
  refine q_gR hB cf11 1 (by decide) (own := "PulseRemote") rfl (Or.inl k_396) (by decide +kernel) (by decide +kernel : decode cX11_init 130 = .ok (.getfield 16, 3)) hf (fun x122 hf => ?_)
  refine r_iload_n hB 0 rfl (by decide +kernel : decode cX11_init 133 = .ok (.iload_n 1, 1)) rfl ?_
  refine WW.mono (kc := 41 + 1) (ks := 3122 + 5) (Nat.le_of_ble_eq_true rfl) (Nat.le_of_ble_eq_true rfl) (q_new hB cf7 (by decide) (own := "PulseRemote") rfl k_44 k_45 k_23 (by decide +kernel : decode cX11_init 134 = .ok (.new 9, 3)) hf (fun x124 hf => ?_))
  refine r_dup hB (by decide +kernel : decode cX11_init 137 = .ok (.dup, 1)) rfl ?_
  refine WW.mono (kc := 24 + rmX7_init.cells) (ks := 2424 + rmX7_init.slots) (Nat.le_of_ble_eq_true rfl) (Nat.le_of_ble_eq_true rfl) (q_cI hB [] [.ref (b + x124.1), .int 5, .ref (b + x122)] (own := "PulseRemote") rfl cmX7_init hiX7_init rfl (Or.inl k_46) (by decide) rfl (Nat.le_of_ble_eq_true rfl) (by decide +kernel : decode cX11_init 138 = .ok (.invokespecial 11, 3)) (fun z hz => m_X7_init _ _ _ _ hz) rfl hf (fun z126 hf => ?_))
  refine q_aast hB (t := 19) (C := RX7) cf7 (Or.inr (Or.inl ⟨rfl, rfl⟩)) (by decide +kernel : decode cX11_init 141 = .ok (.aastore, 1)) hf (fun m127 hf => ?_)
  refine r_iinc hB (v := 6) 0 rfl (by decide +kernel : decode cX11_init 142 = .ok (.iinc 1 1, 3)) (by decide +kernel) (by decide) rfl ?_
  refine ww_lv (lv' := [(1, .int 6), (0, .ref (b + l0))]) rfl ?_
  refine r_goto hB (tgt := 123) (by decide +kernel : decode cX11_init 145 = .ok (.goto (-22), 3)) (by decide) ?_
  refine r_iload_n hB 0 rfl (by decide +kernel : decode cX11_init 123 = .ok (.iload_n 1, 1)) rfl ?_
  refine r_bipush hB (v := 6) (by decide +kernel : decode cX11_init 124 = .ok (.bipush 6, 2)) (by decide +kernel) ?_
  refine r_icmp_ge hB (tgt := 148) (by decide +kernel : decode cX11_init 126 = .ok (.if_icmp .ge 22, 3)) (by decide) (show (if (6 : Int32) ≤ 6 then (some () : Option Unit) else none) = some () by decide +kernel) (fun _ _ => ?_) (fun _ h => nomatch h)
  refine r_iconst hB (v := 0) (by decide +kernel : decode cX11_init 148 = .ok (.iconst 0, 1)) (by decide +kernel) ?_
  refine r_istore_n hB (by decide +kernel : decode cX11_init 149 = .ok (.istore_n 1, 1)) rfl (by decide) rfl ?_
  refine ww_lv (lv' := [(1, .int 0), (0, .ref (b + l0))]) rfl ?_
  refine r_iload_n hB 0 rfl (by decide +kernel : decode cX11_init 150 = .ok (.iload_n 1, 1)) rfl ?_
  refine r_bipush hB (v := 12) (by decide +kernel : decode cX11_init 151 = .ok (.bipush 12, 2)) (by decide +kernel) ?_
  refine r_icmp_ge hB (tgt := 175) (by decide +kernel : decode cX11_init 153 = .ok (.if_icmp .ge 22, 3)) (by decide) (show (if (12 : Int32) ≤ 0 then (none : Option Unit) else some ()) = some () by decide +kernel) (fun _ h => nomatch h) (fun _ _ => ?_)
  refine r_aload_n hB 1 rfl (by decide +kernel : decode cX11_init 156 = .ok (.aload_n 0, 1)) rfl ?_
  refine q_gR hB cf11 6 (by decide) (own := "PulseRemote") rfl (Or.inl k_401) (by decide +kernel) (by decide +kernel : decode cX11_init 157 = .ok (.getfield 41, 3)) hf (fun x139 hf => ?_)
  refine r_iload_n hB 0 rfl (by decide +kernel : decode cX11_init 160 = .ok (.iload_n 1, 1)) rfl ?_
  refine WW.mono (kc := 23 + 1) (ks := 2422 + 2) (Nat.le_of_ble_eq_true rfl) (Nat.le_of_ble_eq_true rfl) (q_new hB cf10 (by decide) (own := "PulseRemote") rfl k_195 k_132 k_26 (by decide +kernel : decode cX11_init 161 = .ok (.new 34, 3)) hf (fun x141 hf => ?_))
  refine r_dup hB (by decide +kernel : decode cX11_init 164 = .ok (.dup, 1)) rfl ?_
  refine WW.mono (kc := 22 + rmX10_init.cells) (ks := 2222 + rmX10_init.slots) (Nat.le_of_ble_eq_true rfl) (Nat.le_of_ble_eq_true rfl) (q_cI hB [] [.ref (b + x141.1), .int 0, .ref (b + x139)] (own := "PulseRemote") rfl cmX10_init hiX10_init rfl (Or.inr ⟨_, k_196⟩) (by decide) rfl (Nat.le_of_ble_eq_true rfl) (by decide +kernel : decode cX11_init 165 = .ok (.invokespecial 36, 3)) (fun z hz => m_X10_init _ _ _ _ hz) rfl hf (fun z143 hf => ?_))
  refine q_aast hB (t := 20) (C := RX10) cf10 (Or.inr (Or.inr ⟨rfl, rfl⟩)) (by decide +kernel : decode cX11_init 168 = .ok (.aastore, 1)) hf (fun m144 hf => ?_)
  refine r_iinc hB (v := 1) 0 rfl (by decide +kernel : decode cX11_init 169 = .ok (.iinc 1 1, 3)) (by decide +kernel) (by decide) rfl ?_
  refine ww_lv (lv' := [(1, .int 1), (0, .ref (b + l0))]) rfl ?_
  refine r_goto hB (tgt := 150) (by decide +kernel : decode cX11_init 172 = .ok (.goto (-22), 3)) (by decide) ?_
  refine r_iload_n hB 0 rfl (by decide +kernel : decode cX11_init 150 = .ok (.iload_n 1, 1)) rfl ?_
  refine r_bipush hB (v := 12) (by decide +kernel : decode cX11_init 151 = .ok (.bipush 12, 2)) (by decide +kernel) ?_
  refine r_icmp_ge hB (tgt := 175) (by decide +kernel : decode cX11_init 153 = .ok (.if_icmp .ge 22, 3)) (by decide) (show (if (12 : Int32) ≤ 1 then (none : Option Unit) else some ()) = some () by decide +kernel) (fun _ h => nomatch h) (fun _ _ => ?_)
  refine r_aload_n hB 1 rfl (by decide +kernel : decode cX11_init 156 = .ok (.aload_n 0, 1)) rfl ?_
  refine q_gR hB cf11 6 (by decide) (own := "PulseRemote") rfl (Or.inl k_401) (by decide +kernel) (by decide +kernel : decode cX11_init 157 = .ok (.getfield 41, 3)) hf (fun x151 hf => ?_)
  refine r_iload_n hB 0 rfl (by decide +kernel : decode cX11_init 160 = .ok (.iload_n 1, 1)) rfl ?_
  refine WW.mono (kc := 21 + 1) (ks := 2220 + 2) (Nat.le_of_ble_eq_true rfl) (Nat.le_of_ble_eq_true rfl) (q_new hB cf10 (by decide) (own := "PulseRemote") rfl k_195 k_132 k_26 (by decide +kernel : decode cX11_init 161 = .ok (.new 34, 3)) hf (fun x153 hf => ?_))
  refine r_dup hB (by decide +kernel : decode cX11_init 164 = .ok (.dup, 1)) rfl ?_
  refine WW.mono (kc := 20 + rmX10_init.cells) (ks := 2020 + rmX10_init.slots) (Nat.le_of_ble_eq_true rfl) (Nat.le_of_ble_eq_true rfl) (q_cI hB [] [.ref (b + x153.1), .int 1, .ref (b + x151)] (own := "PulseRemote") rfl cmX10_init hiX10_init rfl (Or.inr ⟨_, k_196⟩) (by decide) rfl (Nat.le_of_ble_eq_true rfl) (by decide +kernel : decode cX11_init 165 = .ok (.invokespecial 36, 3)) (fun z hz => m_X10_init _ _ _ _ hz) rfl hf (fun z155 hf => ?_))
  refine q_aast hB (t := 20) (C := RX10) cf10 (Or.inr (Or.inr ⟨rfl, rfl⟩)) (by decide +kernel : decode cX11_init 168 = .ok (.aastore, 1)) hf (fun m156 hf => ?_)
  refine r_iinc hB (v := 2) 0 rfl (by decide +kernel : decode cX11_init 169 = .ok (.iinc 1 1, 3)) (by decide +kernel) (by decide) rfl ?_
  refine ww_lv (lv' := [(1, .int 2), (0, .ref (b + l0))]) rfl ?_
  refine r_goto hB (tgt := 150) (by decide +kernel : decode cX11_init 172 = .ok (.goto (-22), 3)) (by decide) ?_
  refine r_iload_n hB 0 rfl (by decide +kernel : decode cX11_init 150 = .ok (.iload_n 1, 1)) rfl ?_
  refine r_bipush hB (v := 12) (by decide +kernel : decode cX11_init 151 = .ok (.bipush 12, 2)) (by decide +kernel) ?_
  refine r_icmp_ge hB (tgt := 175) (by decide +kernel : decode cX11_init 153 = .ok (.if_icmp .ge 22, 3)) (by decide) (show (if (12 : Int32) ≤ 2 then (none : Option Unit) else some ()) = some () by decide +kernel) (fun _ h => nomatch h) (fun _ _ => ?_)
  refine r_aload_n hB 1 rfl (by decide +kernel : decode cX11_init 156 = .ok (.aload_n 0, 1)) rfl ?_
  refine q_gR hB cf11 6 (by decide) (own := "PulseRemote") rfl (Or.inl k_401) (by decide +kernel) (by decide +kernel : decode cX11_init 157 = .ok (.getfield 41, 3)) hf (fun x163 hf => ?_)
  refine r_iload_n hB 0 rfl (by decide +kernel : decode cX11_init 160 = .ok (.iload_n 1, 1)) rfl ?_
  refine WW.mono (kc := 19 + 1) (ks := 2018 + 2) (Nat.le_of_ble_eq_true rfl) (Nat.le_of_ble_eq_true rfl) (q_new hB cf10 (by decide) (own := "PulseRemote") rfl k_195 k_132 k_26 (by decide +kernel : decode cX11_init 161 = .ok (.new 34, 3)) hf (fun x165 hf => ?_))
  refine r_dup hB (by decide +kernel : decode cX11_init 164 = .ok (.dup, 1)) rfl ?_
  refine WW.mono (kc := 18 + rmX10_init.cells) (ks := 1818 + rmX10_init.slots) (Nat.le_of_ble_eq_true rfl) (Nat.le_of_ble_eq_true rfl) (q_cI hB [] [.ref (b + x165.1), .int 2, .ref (b + x163)] (own := "PulseRemote") rfl cmX10_init hiX10_init rfl (Or.inr ⟨_, k_196⟩) (by decide) rfl (Nat.le_of_ble_eq_true rfl) (by decide +kernel : decode cX11_init 165 = .ok (.invokespecial 36, 3)) (fun z hz => m_X10_init _ _ _ _ hz) rfl hf (fun z167 hf => ?_))
  refine q_aast hB (t := 20) (C := RX10) cf10 (Or.inr (Or.inr ⟨rfl, rfl⟩)) (by decide +kernel : decode cX11_init 168 = .ok (.aastore, 1)) hf (fun m168 hf => ?_)
  refine r_iinc hB (v := 3) 0 rfl (by decide +kernel : decode cX11_init 169 = .ok (.iinc 1 1, 3)) (by decide +kernel) (by decide) rfl ?_
  refine ww_lv (lv' := [(1, .int 3), (0, .ref (b + l0))]) rfl ?_
  refine r_goto hB (tgt := 150) (by decide +kernel : decode cX11_init 172 = .ok (.goto (-22), 3)) (by decide) ?_
  refine r_iload_n hB 0 rfl (by decide +kernel : decode cX11_init 150 = .ok (.iload_n 1, 1)) rfl ?_
  refine r_bipush hB (v := 12) (by decide +kernel : decode cX11_init 151 = .ok (.bipush 12, 2)) (by decide +kernel) ?_
  refine r_icmp_ge hB (tgt := 175) (by decide +kernel : decode cX11_init 153 = .ok (.if_icmp .ge 22, 3)) (by decide) (show (if (12 : Int32) ≤ 3 then (none : Option Unit) else some ()) = some () by decide +kernel) (fun _ h => nomatch h) (fun _ _ => ?_)
  refine r_aload_n hB 1 rfl (by decide +kernel : decode cX11_init 156 = .ok (.aload_n 0, 1)) rfl ?_
  refine q_gR hB cf11 6 (by decide) (own := "PulseRemote") rfl (Or.inl k_401) (by decide +kernel) (by decide +kernel : decode cX11_init 157 = .ok (.getfield 41, 3)) hf (fun x175 hf => ?_)
  refine r_iload_n hB 0 rfl (by decide +kernel : decode cX11_init 160 = .ok (.iload_n 1, 1)) rfl ?_
  refine WW.mono (kc := 17 + 1) (ks := 1816 + 2) (Nat.le_of_ble_eq_true rfl) (Nat.le_of_ble_eq_true rfl) (q_new hB cf10 (by decide) (own := "PulseRemote") rfl k_195 k_132 k_26 (by decide +kernel : decode cX11_init 161 = .ok (.new 34, 3)) hf (fun x177 hf => ?_))
  refine r_dup hB (by decide +kernel : decode cX11_init 164 = .ok (.dup, 1)) rfl ?_
  refine WW.mono (kc := 16 + rmX10_init.cells) (ks := 1616 + rmX10_init.slots) (Nat.le_of_ble_eq_true rfl) (Nat.le_of_ble_eq_true rfl) (q_cI hB [] [.ref (b + x177.1), .int 3, .ref (b + x175)] (own := "PulseRemote") rfl cmX10_init hiX10_init rfl (Or.inr ⟨_, k_196⟩) (by decide) rfl (Nat.le_of_ble_eq_true rfl) (by decide +kernel : decode cX11_init 165 = .ok (.invokespecial 36, 3)) (fun z hz => m_X10_init _ _ _ _ hz) rfl hf (fun z179 hf => ?_))
  refine q_aast hB (t := 20) (C := RX10) cf10 (Or.inr (Or.inr ⟨rfl, rfl⟩)) (by decide +kernel : decode cX11_init 168 = .ok (.aastore, 1)) hf (fun m180 hf => ?_)
  refine r_iinc hB (v := 4) 0 rfl (by decide +kernel : decode cX11_init 169 = .ok (.iinc 1 1, 3)) (by decide +kernel) (by decide) rfl ?_
  refine ww_lv (lv' := [(1, .int 4), (0, .ref (b + l0))]) rfl ?_
  refine r_goto hB (tgt := 150) (by decide +kernel : decode cX11_init 172 = .ok (.goto (-22), 3)) (by decide) ?_
  refine r_iload_n hB 0 rfl (by decide +kernel : decode cX11_init 150 = .ok (.iload_n 1, 1)) rfl ?_
  refine r_bipush hB (v := 12) (by decide +kernel : decode cX11_init 151 = .ok (.bipush 12, 2)) (by decide +kernel) ?_
  refine r_icmp_ge hB (tgt := 175) (by decide +kernel : decode cX11_init 153 = .ok (.if_icmp .ge 22, 3)) (by decide) (show (if (12 : Int32) ≤ 4 then (none : Option Unit) else some ()) = some () by decide +kernel) (fun _ h => nomatch h) (fun _ _ => ?_)
  refine r_aload_n hB 1 rfl (by decide +kernel : decode cX11_init 156 = .ok (.aload_n 0, 1)) rfl ?_
  refine q_gR hB cf11 6 (by decide) (own := "PulseRemote") rfl (Or.inl k_401) (by decide +kernel) (by decide +kernel : decode cX11_init 157 = .ok (.getfield 41, 3)) hf (fun x187 hf => ?_)
  refine r_iload_n hB 0 rfl (by decide +kernel : decode cX11_init 160 = .ok (.iload_n 1, 1)) rfl ?_
  refine WW.mono (kc := 15 + 1) (ks := 1614 + 2) (Nat.le_of_ble_eq_true rfl) (Nat.le_of_ble_eq_true rfl) (q_new hB cf10 (by decide) (own := "PulseRemote") rfl k_195 k_132 k_26 (by decide +kernel : decode cX11_init 161 = .ok (.new 34, 3)) hf (fun x189 hf => ?_))
  refine r_dup hB (by decide +kernel : decode cX11_init 164 = .ok (.dup, 1)) rfl ?_
  refine WW.mono (kc := 14 + rmX10_init.cells) (ks := 1414 + rmX10_init.slots) (Nat.le_of_ble_eq_true rfl) (Nat.le_of_ble_eq_true rfl) (q_cI hB [] [.ref (b + x189.1), .int 4, .ref (b + x187)] (own := "PulseRemote") rfl cmX10_init hiX10_init rfl (Or.inr ⟨_, k_196⟩) (by decide) rfl (Nat.le_of_ble_eq_true rfl) (by decide +kernel : decode cX11_init 165 = .ok (.invokespecial 36, 3)) (fun z hz => m_X10_init _ _ _ _ hz) rfl hf (fun z191 hf => ?_))
  refine q_aast hB (t := 20) (C := RX10) cf10 (Or.inr (Or.inr ⟨rfl, rfl⟩)) (by decide +kernel : decode cX11_init 168 = .ok (.aastore, 1)) hf (fun m192 hf => ?_)
  refine r_iinc hB (v := 5) 0 rfl (by decide +kernel : decode cX11_init 169 = .ok (.iinc 1 1, 3)) (by decide +kernel) (by decide) rfl ?_
  refine ww_lv (lv' := [(1, .int 5), (0, .ref (b + l0))]) rfl ?_
  refine r_goto hB (tgt := 150) (by decide +kernel : decode cX11_init 172 = .ok (.goto (-22), 3)) (by decide) ?_
  refine r_iload_n hB 0 rfl (by decide +kernel : decode cX11_init 150 = .ok (.iload_n 1, 1)) rfl ?_
  refine r_bipush hB (v := 12) (by decide +kernel : decode cX11_init 151 = .ok (.bipush 12, 2)) (by decide +kernel) ?_
  refine r_icmp_ge hB (tgt := 175) (by decide +kernel : decode cX11_init 153 = .ok (.if_icmp .ge 22, 3)) (by decide) (show (if (12 : Int32) ≤ 5 then (none : Option Unit) else some ()) = some () by decide +kernel) (fun _ h => nomatch h) (fun _ _ => ?_)
  refine r_aload_n hB 1 rfl (by decide +kernel : decode cX11_init 156 = .ok (.aload_n 0, 1)) rfl ?_
  refine q_gR hB cf11 6 (by decide) (own := "PulseRemote") rfl (Or.inl k_401) (by decide +kernel) (by decide +kernel : decode cX11_init 157 = .ok (.getfield 41, 3)) hf (fun x199 hf => ?_)
  refine r_iload_n hB 0 rfl (by decide +kernel : decode cX11_init 160 = .ok (.iload_n 1, 1)) rfl ?_
  refine WW.mono (kc := 13 + 1) (ks := 1412 + 2) (Nat.le_of_ble_eq_true rfl) (Nat.le_of_ble_eq_true rfl) (q_new hB cf10 (by decide) (own := "PulseRemote") rfl k_195 k_132 k_26 (by decide +kernel : decode cX11_init 161 = .ok (.new 34, 3)) hf (fun x201 hf => ?_))
  refine r_dup hB (by decide +kernel : decode cX11_init 164 = .ok (.dup, 1)) rfl ?_
  refine WW.mono (kc := 12 + rmX10_init.cells) (ks := 1212 + rmX10_init.slots) (Nat.le_of_ble_eq_true rfl) (Nat.le_of_ble_eq_true rfl) (q_cI hB [] [.ref (b + x201.1), .int 5, .ref (b + x199)] (own := "PulseRemote") rfl cmX10_init hiX10_init rfl (Or.inr ⟨_, k_196⟩) (by decide) rfl (Nat.le_of_ble_eq_true rfl) (by decide +kernel : decode cX11_init 165 = .ok (.invokespecial 36, 3)) (fun z hz => m_X10_init _ _ _ _ hz) rfl hf (fun z203 hf => ?_))
  refine q_aast hB (t := 20) (C := RX10) cf10 (Or.inr (Or.inr ⟨rfl, rfl⟩)) (by decide +kernel : decode cX11_init 168 = .ok (.aastore, 1)) hf (fun m204 hf => ?_)
  refine r_iinc hB (v := 6) 0 rfl (by decide +kernel : decode cX11_init 169 = .ok (.iinc 1 1, 3)) (by decide +kernel) (by decide) rfl ?_
  refine ww_lv (lv' := [(1, .int 6), (0, .ref (b + l0))]) rfl ?_
  refine r_goto hB (tgt := 150) (by decide +kernel : decode cX11_init 172 = .ok (.goto (-22), 3)) (by decide) ?_
  refine r_iload_n hB 0 rfl (by decide +kernel : decode cX11_init 150 = .ok (.iload_n 1, 1)) rfl ?_
  refine r_bipush hB (v := 12) (by decide +kernel : decode cX11_init 151 = .ok (.bipush 12, 2)) (by decide +kernel) ?_
  refine r_icmp_ge hB (tgt := 175) (by decide +kernel : decode cX11_init 153 = .ok (.if_icmp .ge 22, 3)) (by decide) (show (if (12 : Int32) ≤ 6 then (none : Option Unit) else some ()) = some () by decide +kernel) (fun _ h => nomatch h) (fun _ _ => ?_)
  refine r_aload_n hB 1 rfl (by decide +kernel : decode cX11_init 156 = .ok (.aload_n 0, 1)) rfl ?_
  refine q_gR hB cf11 6 (by decide) (own := "PulseRemote") rfl (Or.inl k_401) (by decide +kernel) (by decide +kernel : decode cX11_init 157 = .ok (.getfield 41, 3)) hf (fun x211 hf => ?_)
  refine r_iload_n hB 0 rfl (by decide +kernel : decode cX11_init 160 = .ok (.iload_n 1, 1)) rfl ?_
  refine WW.mono (kc := 11 + 1) (ks := 1210 + 2) (Nat.le_of_ble_eq_true rfl) (Nat.le_of_ble_eq_true rfl) (q_new hB cf10 (by decide) (own := "PulseRemote") rfl k_195 k_132 k_26 (by decide +kernel : decode cX11_init 161 = .ok (.new 34, 3)) hf (fun x213 hf => ?_))
  refine r_dup hB (by decide +kernel : decode cX11_init 164 = .ok (.dup, 1)) rfl ?_
  refine WW.mono (kc := 10 + rmX10_init.cells) (ks := 1010 + rmX10_init.slots) (Nat.le_of_ble_eq_true rfl) (Nat.le_of_ble_eq_true rfl) (q_cI hB [] [.ref (b + x213.1), .int 6, .ref (b + x211)] (own := "PulseRemote") rfl cmX10_init hiX10_init rfl (Or.inr ⟨_, k_196⟩) (by decide) rfl (Nat.le_of_ble_eq_true rfl) (by decide +kernel : decode cX11_init 165 = .ok (.invokespecial 36, 3)) (fun z hz => m_X10_init _ _ _ _ hz) rfl hf (fun z215 hf => ?_))
  refine q_aast hB (t := 20) (C := RX10) cf10 (Or.inr (Or.inr ⟨rfl, rfl⟩)) (by decide +kernel : decode cX11_init 168 = .ok (.aastore, 1)) hf (fun m216 hf => ?_)
  refine r_iinc hB (v := 7) 0 rfl (by decide +kernel : decode cX11_init 169 = .ok (.iinc 1 1, 3)) (by decide +kernel) (by decide) rfl ?_
  refine ww_lv (lv' := [(1, .int 7), (0, .ref (b + l0))]) rfl ?_
  refine r_goto hB (tgt := 150) (by decide +kernel : decode cX11_init 172 = .ok (.goto (-22), 3)) (by decide) ?_
  refine r_iload_n hB 0 rfl (by decide +kernel : decode cX11_init 150 = .ok (.iload_n 1, 1)) rfl ?_
  refine r_bipush hB (v := 12) (by decide +kernel : decode cX11_init 151 = .ok (.bipush 12, 2)) (by decide +kernel) ?_
  refine r_icmp_ge hB (tgt := 175) (by decide +kernel : decode cX11_init 153 = .ok (.if_icmp .ge 22, 3)) (by decide) (show (if (12 : Int32) ≤ 7 then (none : Option Unit) else some ()) = some () by decide +kernel) (fun _ h => nomatch h) (fun _ _ => ?_)
  refine r_aload_n hB 1 rfl (by decide +kernel : decode cX11_init 156 = .ok (.aload_n 0, 1)) rfl ?_
  refine q_gR hB cf11 6 (by decide) (own := "PulseRemote") rfl (Or.inl k_401) (by decide +kernel) (by decide +kernel : decode cX11_init 157 = .ok (.getfield 41, 3)) hf (fun x223 hf => ?_)
  refine r_iload_n hB 0 rfl (by decide +kernel : decode cX11_init 160 = .ok (.iload_n 1, 1)) rfl ?_
  refine WW.mono (kc := 9 + 1) (ks := 1008 + 2) (Nat.le_of_ble_eq_true rfl) (Nat.le_of_ble_eq_true rfl) (q_new hB cf10 (by decide) (own := "PulseRemote") rfl k_195 k_132 k_26 (by decide +kernel : decode cX11_init 161 = .ok (.new 34, 3)) hf (fun x225 hf => ?_))
  refine r_dup hB (by decide +kernel : decode cX11_init 164 = .ok (.dup, 1)) rfl ?_
  refine WW.mono (kc := 8 + rmX10_init.cells) (ks := 808 + rmX10_init.slots) (Nat.le_of_ble_eq_true rfl) (Nat.le_of_ble_eq_true rfl) (q_cI hB [] [.ref (b + x225.1), .int 7, .ref (b + x223)] (own := "PulseRemote") rfl cmX10_init hiX10_init rfl (Or.inr ⟨_, k_196⟩) (by decide) rfl (Nat.le_of_ble_eq_true rfl) (by decide +kernel : decode cX11_init 165 = .ok (.invokespecial 36, 3)) (fun z hz => m_X10_init _ _ _ _ hz) rfl hf (fun z227 hf => ?_))
  refine q_aast hB (t := 20) (C := RX10) cf10 (Or.inr (Or.inr ⟨rfl, rfl⟩)) (by decide +kernel : decode cX11_init 168 = .ok (.aastore, 1)) hf (fun m228 hf => ?_)
  refine r_iinc hB (v := 8) 0 rfl (by decide +kernel : decode cX11_init 169 = .ok (.iinc 1 1, 3)) (by decide +kernel) (by decide) rfl ?_
  refine ww_lv (lv' := [(1, .int 8), (0, .ref (b + l0))]) rfl ?_
  refine r_goto hB (tgt := 150) (by decide +kernel : decode cX11_init 172 = .ok (.goto (-22), 3)) (by decide) ?_
  refine r_iload_n hB 0 rfl (by decide +kernel : decode cX11_init 150 = .ok (.iload_n 1, 1)) rfl ?_
  refine r_bipush hB (v := 12) (by decide +kernel : decode cX11_init 151 = .ok (.bipush 12, 2)) (by decide +kernel) ?_
  refine r_icmp_ge hB (tgt := 175) (by decide +kernel : decode cX11_init 153 = .ok (.if_icmp .ge 22, 3)) (by decide) (show (if (12 : Int32) ≤ 8 then (none : Option Unit) else some ()) = some () by decide +kernel) (fun _ h => nomatch h) (fun _ _ => ?_)
  refine r_aload_n hB 1 rfl (by decide +kernel : decode cX11_init 156 = .ok (.aload_n 0, 1)) rfl ?_
  refine q_gR hB cf11 6 (by decide) (own := "PulseRemote") rfl (Or.inl k_401) (by decide +kernel) (by decide +kernel : decode cX11_init 157 = .ok (.getfield 41, 3)) hf (fun x235 hf => ?_)
  refine r_iload_n hB 0 rfl (by decide +kernel : decode cX11_init 160 = .ok (.iload_n 1, 1)) rfl ?_
  refine WW.mono (kc := 7 + 1) (ks := 806 + 2) (Nat.le_of_ble_eq_true rfl) (Nat.le_of_ble_eq_true rfl) (q_new hB cf10 (by decide) (own := "PulseRemote") rfl k_195 k_132 k_26 (by decide +kernel : decode cX11_init 161 = .ok (.new 34, 3)) hf (fun x237 hf => ?_))
  refine r_dup hB (by decide +kernel : decode cX11_init 164 = .ok (.dup, 1)) rfl ?_
  refine WW.mono (kc := 6 + rmX10_init.cells) (ks := 606 + rmX10_init.slots) (Nat.le_of_ble_eq_true rfl) (Nat.le_of_ble_eq_true rfl) (q_cI hB [] [.ref (b + x237.1), .int 8, .ref (b + x235)] (own := "PulseRemote") rfl cmX10_init hiX10_init rfl (Or.inr ⟨_, k_196⟩) (by decide) rfl (Nat.le_of_ble_eq_true rfl) (by decide +kernel : decode cX11_init 165 = .ok (.invokespecial 36, 3)) (fun z hz => m_X10_init _ _ _ _ hz) rfl hf (fun z239 hf => ?_))
  refine q_aast hB (t := 20) (C := RX10) cf10 (Or.inr (Or.inr ⟨rfl, rfl⟩)) (by decide +kernel : decode cX11_init 168 = .ok (.aastore, 1)) hf (fun m240 hf => ?_)
  refine r_iinc hB (v := 9) 0 rfl (by decide +kernel : decode cX11_init 169 = .ok (.iinc 1 1, 3)) (by decide +kernel) (by decide) rfl ?_
  refine ww_lv (lv' := [(1, .int 9), (0, .ref (b + l0))]) rfl ?_
  refine r_goto hB (tgt := 150) (by decide +kernel : decode cX11_init 172 = .ok (.goto (-22), 3)) (by decide) ?_
  refine r_iload_n hB 0 rfl (by decide +kernel : decode cX11_init 150 = .ok (.iload_n 1, 1)) rfl ?_
  refine r_bipush hB (v := 12) (by decide +kernel : decode cX11_init 151 = .ok (.bipush 12, 2)) (by decide +kernel) ?_
  refine r_icmp_ge hB (tgt := 175) (by decide +kernel : decode cX11_init 153 = .ok (.if_icmp .ge 22, 3)) (by decide) (show (if (12 : Int32) ≤ 9 then (none : Option Unit) else some ()) = some () by decide +kernel) (fun _ h => nomatch h) (fun _ _ => ?_)
  refine r_aload_n hB 1 rfl (by decide +kernel : decode cX11_init 156 = .ok (.aload_n 0, 1)) rfl ?_
  refine q_gR hB cf11 6 (by decide) (own := "PulseRemote") rfl (Or.inl k_401) (by decide +kernel) (by decide +kernel : decode cX11_init 157 = .ok (.getfield 41, 3)) hf (fun x247 hf => ?_)
  refine r_iload_n hB 0 rfl (by decide +kernel : decode cX11_init 160 = .ok (.iload_n 1, 1)) rfl ?_
  refine WW.mono (kc := 5 + 1) (ks := 604 + 2) (Nat.le_of_ble_eq_true rfl) (Nat.le_of_ble_eq_true rfl) (q_new hB cf10 (by decide) (own := "PulseRemote") rfl k_195 k_132 k_26 (by decide +kernel : decode cX11_init 161 = .ok (.new 34, 3)) hf (fun x249 hf => ?_))
  refine r_dup hB (by decide +kernel : decode cX11_init 164 = .ok (.dup, 1)) rfl ?_
  refine WW.mono (kc := 4 + rmX10_init.cells) (ks := 404 + rmX10_init.slots) (Nat.le_of_ble_eq_true rfl) (Nat.le_of_ble_eq_true rfl) (q_cI hB [] [.ref (b + x249.1), .int 9, .ref (b + x247)] (own := "PulseRemote") rfl cmX10_init hiX10_init rfl (Or.inr ⟨_, k_196⟩) (by decide) rfl (Nat.le_of_ble_eq_true rfl) (by decide +kernel : decode cX11_init 165 = .ok (.invokespecial 36, 3)) (fun z hz => m_X10_init _ _ _ _ hz) rfl hf (fun z251 hf => ?_))
  refine q_aast hB (t := 20) (C := RX10) cf10 (Or.inr (Or.inr ⟨rfl, rfl⟩)) (by decide +kernel : decode cX11_init 168 = .ok (.aastore, 1)) hf (fun m252 hf => ?_)
  refine r_iinc hB (v := 10) 0 rfl (by decide +kernel : decode cX11_init 169 = .ok (.iinc 1 1, 3)) (by decide +kernel) (by decide) rfl ?_
  refine ww_lv (lv' := [(1, .int 10), (0, .ref (b + l0))]) rfl ?_
  refine r_goto hB (tgt := 150) (by decide +kernel : decode cX11_init 172 = .ok (.goto (-22), 3)) (by decide) ?_
  refine r_iload_n hB 0 rfl (by decide +kernel : decode cX11_init 150 = .ok (.iload_n 1, 1)) rfl ?_
  refine r_bipush hB (v := 12) (by decide +kernel : decode cX11_init 151 = .ok (.bipush 12, 2)) (by decide +kernel) ?_
  refine r_icmp_ge hB (tgt := 175) (by decide +kernel : decode cX11_init 153 = .ok (.if_icmp .ge 22, 3)) (by decide) (show (if (12 : Int32) ≤ 10 then (none : Option Unit) else some ()) = some () by decide +kernel) (fun _ h => nomatch h) (fun _ _ => ?_)
  refine r_aload_n hB 1 rfl (by decide +kernel : decode cX11_init 156 = .ok (.aload_n 0, 1)) rfl ?_
  refine q_gR hB cf11 6 (by decide) (own := "PulseRemote") rfl (Or.inl k_401) (by decide +kernel) (by decide +kernel : decode cX11_init 157 = .ok (.getfield 41, 3)) hf (fun x259 hf => ?_)
  refine r_iload_n hB 0 rfl (by decide +kernel : decode cX11_init 160 = .ok (.iload_n 1, 1)) rfl ?_
  refine WW.mono (kc := 3 + 1) (ks := 402 + 2) (Nat.le_of_ble_eq_true rfl) (Nat.le_of_ble_eq_true rfl) (q_new hB cf10 (by decide) (own := "PulseRemote") rfl k_195 k_132 k_26 (by decide +kernel : decode cX11_init 161 = .ok (.new 34, 3)) hf (fun x261 hf => ?_))
  refine r_dup hB (by decide +kernel : decode cX11_init 164 = .ok (.dup, 1)) rfl ?_
  refine WW.mono (kc := 2 + rmX10_init.cells) (ks := 202 + rmX10_init.slots) (Nat.le_of_ble_eq_true rfl) (Nat.le_of_ble_eq_true rfl) (q_cI hB [] [.ref (b + x261.1), .int 10, .ref (b + x259)] (own := "PulseRemote") rfl cmX10_init hiX10_init rfl (Or.inr ⟨_, k_196⟩) (by decide) rfl (Nat.le_of_ble_eq_true rfl) (by decide +kernel : decode cX11_init 165 = .ok (.invokespecial 36, 3)) (fun z hz => m_X10_init _ _ _ _ hz) rfl hf (fun z263 hf => ?_))
  refine q_aast hB (t := 20) (C := RX10) cf10 (Or.inr (Or.inr ⟨rfl, rfl⟩)) (by decide +kernel : decode cX11_init 168 = .ok (.aastore, 1)) hf (fun m264 hf => ?_)
  refine r_iinc hB (v := 11) 0 rfl (by decide +kernel : decode cX11_init 169 = .ok (.iinc 1 1, 3)) (by decide +kernel) (by decide) rfl ?_
  refine ww_lv (lv' := [(1, .int 11), (0, .ref (b + l0))]) rfl ?_
  refine r_goto hB (tgt := 150) (by decide +kernel : decode cX11_init 172 = .ok (.goto (-22), 3)) (by decide) ?_
  refine r_iload_n hB 0 rfl (by decide +kernel : decode cX11_init 150 = .ok (.iload_n 1, 1)) rfl ?_
  refine r_bipush hB (v := 12) (by decide +kernel : decode cX11_init 151 = .ok (.bipush 12, 2)) (by decide +kernel) ?_
  refine r_icmp_ge hB (tgt := 175) (by decide +kernel : decode cX11_init 153 = .ok (.if_icmp .ge 22, 3)) (by decide) (show (if (12 : Int32) ≤ 11 then (none : Option Unit) else some ()) = some () by decide +kernel) (fun _ h => nomatch h) (fun _ _ => ?_)
  refine r_aload_n hB 1 rfl (by decide +kernel : decode cX11_init 156 = .ok (.aload_n 0, 1)) rfl ?_
  refine q_gR hB cf11 6 (by decide) (own := "PulseRemote") rfl (Or.inl k_401) (by decide +kernel) (by decide +kernel : decode cX11_init 157 = .ok (.getfield 41, 3)) hf (fun x271 hf => ?_)
  refine r_iload_n hB 0 rfl (by decide +kernel : decode cX11_init 160 = .ok (.iload_n 1, 1)) rfl ?_
  refine WW.mono (kc := 1 + 1) (ks := 200 + 2) (Nat.le_of_ble_eq_true rfl) (Nat.le_of_ble_eq_true rfl) (q_new hB cf10 (by decide) (own := "PulseRemote") rfl k_195 k_132 k_26 (by decide +kernel : decode cX11_init 161 = .ok (.new 34, 3)) hf (fun x273 hf => ?_))
  refine r_dup hB (by decide +kernel : decode cX11_init 164 = .ok (.dup, 1)) rfl ?_
  refine WW.mono (kc := 0 + rmX10_init.cells) (ks := 0 + rmX10_init.slots) (Nat.le_of_ble_eq_true rfl) (Nat.le_of_ble_eq_true rfl) (q_cI hB [] [.ref (b + x273.1), .int 11, .ref (b + x271)] (own := "PulseRemote") rfl cmX10_init hiX10_init rfl (Or.inr ⟨_, k_196⟩) (by decide) rfl (Nat.le_of_ble_eq_true rfl) (by decide +kernel : decode cX11_init 165 = .ok (.invokespecial 36, 3)) (fun z hz => m_X10_init _ _ _ _ hz) rfl hf (fun z275 hf => ?_))
  refine q_aast hB (t := 20) (C := RX10) cf10 (Or.inr (Or.inr ⟨rfl, rfl⟩)) (by decide +kernel : decode cX11_init 168 = .ok (.aastore, 1)) hf (fun m276 hf => ?_)
  refine r_iinc hB (v := 12) 0 rfl (by decide +kernel : decode cX11_init 169 = .ok (.iinc 1 1, 3)) (by decide +kernel) (by decide) rfl ?_
  refine ww_lv (lv' := [(1, .int 12), (0, .ref (b + l0))]) rfl ?_
  refine r_goto hB (tgt := 150) (by decide +kernel : decode cX11_init 172 = .ok (.goto (-22), 3)) (by decide) ?_
  refine r_iload_n hB 0 rfl (by decide +kernel : decode cX11_init 150 = .ok (.iload_n 1, 1)) rfl ?_
  refine r_bipush hB (v := 12) (by decide +kernel : decode cX11_init 151 = .ok (.bipush 12, 2)) (by decide +kernel) ?_
  refine r_icmp_ge hB (tgt := 175) (by decide +kernel : decode cX11_init 153 = .ok (.if_icmp .ge 22, 3)) (by decide) (show (if (12 : Int32) ≤ 12 then (some () : Option Unit) else none) = some () by decide +kernel) (fun _ _ => ?_) (fun _ h => nomatch h)
  obtain rfl := Option.some.inj hf
  exact r_vret hB (by decide +kernel : decode cX11_init 175 = .ok (.return_, 1))
theorem m_X11_init (l : Launch) (D : va_G) (cy : Nat → ClassId) (b : Nat) {l0 : Nat} {s z : LMm} (hf : g_X11_init l0 s = some z) : Met l yX11_init (.code yX11_init cX11_init 2 none :: GW) rmX11_init (Pw D cy b [.ref (b + l0)] (mkM s)) (Qw D cy b none (mkM z)) rmX11_init.cells rmX11_init.slots (fun q => b ≤ q) :=
  met_of (by decide) (Nat.le_of_ble_eq_true rfl) (fun X hB _ => t_X11_init hB hf)
