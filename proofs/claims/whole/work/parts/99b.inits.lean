/-! printed by wip/whole/gen_init.py: the constructors over the memory told by lists -/
theorem k_99 : Cond.instanceMethod ⟨"PulseRemote", "<init>", "()V"⟩ ∈ GW := gw_of (List.mem_of_getElem? (i := 99) (by decide +kernel)) rfl
theorem k_100 : Cond.code yX11_init cX11_init 2 none ∈ GW := gw_of (List.mem_of_getElem? (i := 100) (by decide +kernel)) rfl
theorem k_101 : Cond.methodLink "PulseRemote" 3 ⟨"java/lang/Object", "<init>", "()V"⟩ ∈ GW := gw_of (List.mem_of_getElem? (i := 101) (by decide +kernel)) rfl
theorem k_102 : Cond.instanceMethod Lib.objectInit ∈ GW := gw_of (List.mem_of_getElem? (i := 102) (by decide +kernel)) rfl
theorem k_103 : Cond.code Lib.objectInit ⟨#[0xb1]⟩ 1 none ∈ GW := gw_of (List.mem_of_getElem? (i := 103) (by decide +kernel)) rfl
theorem k_104 : Cond.classLink "PulseRemote" 9 "PulseRemote$State" ∈ GW := gw_of (List.mem_of_getElem? (i := 104) (by decide +kernel)) rfl
theorem k_105 : Cond.instantiable "PulseRemote$State" 5 ∈ GW := gw_of (List.mem_of_getElem? (i := 105) (by decide +kernel)) rfl
theorem k_106 : Cond.methodLink "PulseRemote" 11 ⟨"PulseRemote$State", "<init>", "()V"⟩ ∈ GW := gw_of (List.mem_of_getElem? (i := 106) (by decide +kernel)) rfl
theorem k_107 : Cond.instanceMethod ⟨"PulseRemote$State", "<init>", "()V"⟩ ∈ GW := gw_of (List.mem_of_getElem? (i := 107) (by decide +kernel)) rfl
theorem k_108 : Cond.code yX7_init cX7_init 2 none ∈ GW := gw_of (List.mem_of_getElem? (i := 108) (by decide +kernel)) rfl
theorem k_109 : Cond.methodLink "PulseRemote$State" 3 ⟨"java/lang/Object", "<init>", "()V"⟩ ∈ GW := gw_of (List.mem_of_getElem? (i := 109) (by decide +kernel)) rfl
theorem k_110 : Cond.classLink "PulseRemote$State" 9 "PulseRemote$Table" ∈ GW := gw_of (List.mem_of_getElem? (i := 110) (by decide +kernel)) rfl
theorem k_111 : Cond.instantiable "PulseRemote$Table" 5 ∈ GW := gw_of (List.mem_of_getElem? (i := 111) (by decide +kernel)) rfl
theorem k_112 : Cond.methodLink "PulseRemote$State" 11 ⟨"PulseRemote$Table", "<init>", "()V"⟩ ∈ GW := gw_of (List.mem_of_getElem? (i := 112) (by decide +kernel)) rfl
theorem k_113 : Cond.instanceMethod ⟨"PulseRemote$Table", "<init>", "()V"⟩ ∈ GW := gw_of (List.mem_of_getElem? (i := 113) (by decide +kernel)) rfl
theorem k_114 : Cond.code yX8_init cX8_init 2 none ∈ GW := gw_of (List.mem_of_getElem? (i := 114) (by decide +kernel)) rfl
theorem k_115 : Cond.methodLink "PulseRemote$Table" 3 ⟨"java/lang/Object", "<init>", "()V"⟩ ∈ GW := gw_of (List.mem_of_getElem? (i := 115) (by decide +kernel)) rfl
theorem k_116 : Cond.classLink "PulseRemote$Table" 9 "PulseRemote$Protocol" ∈ GW := gw_of (List.mem_of_getElem? (i := 116) (by decide +kernel)) rfl
theorem k_118 : Cond.instantiable "PulseRemote$Protocol" 9 ∈ GW := gw_of (List.mem_of_getElem? (i := 118) (by decide +kernel)) rfl
theorem k_119 : Cond.methodLinkNest "PulseRemote$Table" 24 ⟨"PulseRemote$Protocol", "<init>", "()V"⟩ "PulseRemote" ∈ lw_tbl := List.mem_of_getElem? (i := 119) (by decide +kernel)
theorem k_120 : Cond.instanceMethod ⟨"PulseRemote$Protocol", "<init>", "()V"⟩ ∈ GW := gw_of (List.mem_of_getElem? (i := 120) (by decide +kernel)) rfl
theorem k_121 : Cond.code yX6_init cX6_init 1 none ∈ GW := gw_of (List.mem_of_getElem? (i := 121) (by decide +kernel)) rfl
theorem k_122 : Cond.methodLink "PulseRemote$Protocol" 3 ⟨"java/lang/Object", "<init>", "()V"⟩ ∈ GW := gw_of (List.mem_of_getElem? (i := 122) (by decide +kernel)) rfl
theorem k_170 : Cond.arrayClass .int ∈ GW := gw_of (List.mem_of_getElem? (i := 170) (by decide +kernel)) rfl
theorem k_191 : Cond.classLink "PulseRemote$State" 18 "PulseRemote$Train" ∈ GW := gw_of (List.mem_of_getElem? (i := 191) (by decide +kernel)) rfl
theorem k_193 : Cond.constant "PulseRemote$State" 28 (40000 : Int32) ∈ GW := gw_of (List.mem_of_getElem? (i := 193) (by decide +kernel)) rfl
theorem k_194 : Cond.instantiable "PulseRemote$Train" 2 ∈ GW := gw_of (List.mem_of_getElem? (i := 194) (by decide +kernel)) rfl
theorem k_195 : Cond.methodLinkNest "PulseRemote$State" 35 ⟨"PulseRemote$Train", "<init>", "()V"⟩ "PulseRemote" ∈ lw_tbl := List.mem_of_getElem? (i := 195) (by decide +kernel)
theorem k_196 : Cond.instanceMethod ⟨"PulseRemote$Train", "<init>", "()V"⟩ ∈ GW := gw_of (List.mem_of_getElem? (i := 196) (by decide +kernel)) rfl
theorem k_197 : Cond.code yX10_init cX10_init 1 none ∈ GW := gw_of (List.mem_of_getElem? (i := 197) (by decide +kernel)) rfl
theorem k_198 : Cond.methodLink "PulseRemote$Train" 3 ⟨"java/lang/Object", "<init>", "()V"⟩ ∈ GW := gw_of (List.mem_of_getElem? (i := 198) (by decide +kernel)) rfl
theorem k_235 : Cond.classLink "PulseRemote" 20 "PulseRemote$Text" ∈ GW := gw_of (List.mem_of_getElem? (i := 235) (by decide +kernel)) rfl
theorem k_236 : Cond.instantiable "PulseRemote$Text" 5 ∈ GW := gw_of (List.mem_of_getElem? (i := 236) (by decide +kernel)) rfl
theorem k_237 : Cond.methodLinkNest "PulseRemote" 22 ⟨"PulseRemote$Text", "<init>", "()V"⟩ "PulseRemote" ∈ lw_tbl := List.mem_of_getElem? (i := 237) (by decide +kernel)
theorem k_238 : Cond.instanceMethod ⟨"PulseRemote$Text", "<init>", "()V"⟩ ∈ GW := gw_of (List.mem_of_getElem? (i := 238) (by decide +kernel)) rfl
theorem k_239 : Cond.code yX9_init cX9_init 1 none ∈ GW := gw_of (List.mem_of_getElem? (i := 239) (by decide +kernel)) rfl
theorem k_240 : Cond.methodLink "PulseRemote$Text" 3 ⟨"java/lang/Object", "<init>", "()V"⟩ ∈ GW := gw_of (List.mem_of_getElem? (i := 240) (by decide +kernel)) rfl
theorem k_259 : Cond.arrayClass .char ∈ GW := gw_of (List.mem_of_getElem? (i := 259) (by decide +kernel)) rfl
theorem k_260 : Cond.classLink "PulseRemote" 27 "PulseRemote$Table" ∈ GW := gw_of (List.mem_of_getElem? (i := 260) (by decide +kernel)) rfl
theorem k_261 : Cond.methodLink "PulseRemote" 29 ⟨"PulseRemote$Table", "<init>", "()V"⟩ ∈ GW := gw_of (List.mem_of_getElem? (i := 261) (by decide +kernel)) rfl
theorem k_262 : Cond.classLink "PulseRemote" 34 "PulseRemote$Train" ∈ GW := gw_of (List.mem_of_getElem? (i := 262) (by decide +kernel)) rfl
theorem k_263 : Cond.methodLinkNest "PulseRemote" 36 ⟨"PulseRemote$Train", "<init>", "()V"⟩ "PulseRemote" ∈ lw_tbl := List.mem_of_getElem? (i := 263) (by decide +kernel)
theorem k_264 : Cond.classLink "PulseRemote" 45 "PulseRemote$FrameList" ∈ GW := gw_of (List.mem_of_getElem? (i := 264) (by decide +kernel)) rfl
theorem k_265 : Cond.instantiable "PulseRemote$FrameList" 4 ∈ GW := gw_of (List.mem_of_getElem? (i := 265) (by decide +kernel)) rfl
theorem k_266 : Cond.methodLinkNest "PulseRemote" 47 ⟨"PulseRemote$FrameList", "<init>", "()V"⟩ "PulseRemote" ∈ lw_tbl := List.mem_of_getElem? (i := 266) (by decide +kernel)
theorem k_267 : Cond.instanceMethod ⟨"PulseRemote$FrameList", "<init>", "()V"⟩ ∈ GW := gw_of (List.mem_of_getElem? (i := 267) (by decide +kernel)) rfl
theorem k_268 : Cond.code yX3_init cX3_init 1 none ∈ GW := gw_of (List.mem_of_getElem? (i := 268) (by decide +kernel)) rfl
theorem k_269 : Cond.methodLink "PulseRemote$FrameList" 3 ⟨"java/lang/Object", "<init>", "()V"⟩ ∈ GW := gw_of (List.mem_of_getElem? (i := 269) (by decide +kernel)) rfl
theorem k_270 : Cond.classLink "PulseRemote$FrameList" 18 "PulseRemote$Train" ∈ GW := gw_of (List.mem_of_getElem? (i := 270) (by decide +kernel)) rfl
theorem k_271 : Cond.methodLinkNest "PulseRemote$FrameList" 20 ⟨"PulseRemote$Train", "<init>", "()V"⟩ "PulseRemote" ∈ lw_tbl := List.mem_of_getElem? (i := 271) (by decide +kernel)
theorem k_288 : Cond.classLink "PulseRemote" 52 "PulseRemote$Decoder" ∈ GW := gw_of (List.mem_of_getElem? (i := 288) (by decide +kernel)) rfl
theorem k_289 : Cond.instantiable "PulseRemote$Decoder" 6 ∈ GW := gw_of (List.mem_of_getElem? (i := 289) (by decide +kernel)) rfl
theorem k_290 : Cond.methodLinkNest "PulseRemote" 54 ⟨"PulseRemote$Decoder", "<init>", "()V"⟩ "PulseRemote" ∈ lw_tbl := List.mem_of_getElem? (i := 290) (by decide +kernel)
theorem k_291 : Cond.instanceMethod ⟨"PulseRemote$Decoder", "<init>", "()V"⟩ ∈ GW := gw_of (List.mem_of_getElem? (i := 291) (by decide +kernel)) rfl
theorem k_292 : Cond.code yX2_init cX2_init 1 none ∈ GW := gw_of (List.mem_of_getElem? (i := 292) (by decide +kernel)) rfl
theorem k_293 : Cond.methodLink "PulseRemote$Decoder" 3 ⟨"java/lang/Object", "<init>", "()V"⟩ ∈ GW := gw_of (List.mem_of_getElem? (i := 293) (by decide +kernel)) rfl
theorem k_317 : Cond.arrayClass .long ∈ GW := gw_of (List.mem_of_getElem? (i := 317) (by decide +kernel)) rfl
theorem k_318 : Cond.classLink "PulseRemote" 59 "PulseRemote$PressList" ∈ GW := gw_of (List.mem_of_getElem? (i := 318) (by decide +kernel)) rfl
theorem k_319 : Cond.instantiable "PulseRemote$PressList" 8 ∈ GW := gw_of (List.mem_of_getElem? (i := 319) (by decide +kernel)) rfl
theorem k_320 : Cond.methodLinkNest "PulseRemote" 61 ⟨"PulseRemote$PressList", "<init>", "()V"⟩ "PulseRemote" ∈ lw_tbl := List.mem_of_getElem? (i := 320) (by decide +kernel)
theorem k_321 : Cond.instanceMethod ⟨"PulseRemote$PressList", "<init>", "()V"⟩ ∈ GW := gw_of (List.mem_of_getElem? (i := 321) (by decide +kernel)) rfl
theorem k_322 : Cond.code yX5_init cX5_init 1 none ∈ GW := gw_of (List.mem_of_getElem? (i := 322) (by decide +kernel)) rfl
theorem k_323 : Cond.methodLink "PulseRemote$PressList" 3 ⟨"java/lang/Object", "<init>", "()V"⟩ ∈ GW := gw_of (List.mem_of_getElem? (i := 323) (by decide +kernel)) rfl
theorem k_354 : Cond.classLink "PulseRemote" 66 "PulseRemote$Learner" ∈ GW := gw_of (List.mem_of_getElem? (i := 354) (by decide +kernel)) rfl
theorem k_355 : Cond.instantiable "PulseRemote$Learner" 10 ∈ GW := gw_of (List.mem_of_getElem? (i := 355) (by decide +kernel)) rfl
theorem k_356 : Cond.methodLinkNest "PulseRemote" 68 ⟨"PulseRemote$Learner", "<init>", "()V"⟩ "PulseRemote" ∈ lw_tbl := List.mem_of_getElem? (i := 356) (by decide +kernel)
theorem k_357 : Cond.instanceMethod ⟨"PulseRemote$Learner", "<init>", "()V"⟩ ∈ GW := gw_of (List.mem_of_getElem? (i := 357) (by decide +kernel)) rfl
theorem k_358 : Cond.code yX4_init cX4_init 1 none ∈ GW := gw_of (List.mem_of_getElem? (i := 358) (by decide +kernel)) rfl
theorem k_359 : Cond.methodLink "PulseRemote$Learner" 3 ⟨"java/lang/Object", "<init>", "()V"⟩ ∈ GW := gw_of (List.mem_of_getElem? (i := 359) (by decide +kernel)) rfl
theorem k_360 : Cond.classLink "PulseRemote$Learner" 9 "PulseRemote$Clusters" ∈ GW := gw_of (List.mem_of_getElem? (i := 360) (by decide +kernel)) rfl
theorem k_361 : Cond.instantiable "PulseRemote$Clusters" 5 ∈ GW := gw_of (List.mem_of_getElem? (i := 361) (by decide +kernel)) rfl
theorem k_362 : Cond.methodLinkNest "PulseRemote$Learner" 11 ⟨"PulseRemote$Clusters", "<init>", "()V"⟩ "PulseRemote" ∈ lw_tbl := List.mem_of_getElem? (i := 362) (by decide +kernel)
theorem k_363 : Cond.instanceMethod ⟨"PulseRemote$Clusters", "<init>", "()V"⟩ ∈ GW := gw_of (List.mem_of_getElem? (i := 363) (by decide +kernel)) rfl
theorem k_364 : Cond.code yX0_init cX0_init 1 none ∈ GW := gw_of (List.mem_of_getElem? (i := 364) (by decide +kernel)) rfl
theorem k_365 : Cond.methodLink "PulseRemote$Clusters" 3 ⟨"java/lang/Object", "<init>", "()V"⟩ ∈ GW := gw_of (List.mem_of_getElem? (i := 365) (by decide +kernel)) rfl
theorem k_426 : Cond.classLink "PulseRemote" 73 "PulseRemote$Collision" ∈ GW := gw_of (List.mem_of_getElem? (i := 426) (by decide +kernel)) rfl
theorem k_427 : Cond.instantiable "PulseRemote$Collision" 10 ∈ GW := gw_of (List.mem_of_getElem? (i := 427) (by decide +kernel)) rfl
theorem k_428 : Cond.methodLinkNest "PulseRemote" 75 ⟨"PulseRemote$Collision", "<init>", "()V"⟩ "PulseRemote" ∈ lw_tbl := List.mem_of_getElem? (i := 428) (by decide +kernel)
theorem k_429 : Cond.instanceMethod ⟨"PulseRemote$Collision", "<init>", "()V"⟩ ∈ GW := gw_of (List.mem_of_getElem? (i := 429) (by decide +kernel)) rfl
theorem k_430 : Cond.code yX1_init cX1_init 1 none ∈ GW := gw_of (List.mem_of_getElem? (i := 430) (by decide +kernel)) rfl
theorem k_431 : Cond.methodLink "PulseRemote$Collision" 3 ⟨"java/lang/Object", "<init>", "()V"⟩ ∈ GW := gw_of (List.mem_of_getElem? (i := 431) (by decide +kernel)) rfl
theorem k_432 : Cond.classLink "PulseRemote$Collision" 9 "PulseRemote$Train" ∈ GW := gw_of (List.mem_of_getElem? (i := 432) (by decide +kernel)) rfl
theorem k_433 : Cond.methodLinkNest "PulseRemote$Collision" 11 ⟨"PulseRemote$Train", "<init>", "()V"⟩ "PulseRemote" ∈ lw_tbl := List.mem_of_getElem? (i := 433) (by decide +kernel)
theorem k_850 : Cond.arrayClass .byte ∈ GW := gw_of (List.mem_of_getElem? (i := 850) (by decide +kernel)) rfl
theorem k_1111 : Cond.instanceMethod ⟨"PulseRemoteModel", "<init>", "()V"⟩ ∈ GW := gw_of (List.mem_of_getElem? (i := 1111) (by decide +kernel)) rfl
theorem k_1112 : Cond.code yX12_init cX12_init 1 none ∈ GW := gw_of (List.mem_of_getElem? (i := 1112) (by decide +kernel)) rfl
theorem k_1113 : Cond.methodLink "PulseRemoteModel" 1 ⟨"java/lang/Object", "<init>", "()V"⟩ ∈ GW := gw_of (List.mem_of_getElem? (i := 1113) (by decide +kernel)) rfl
theorem k_1114 : Cond.constant "PulseRemoteModel" 63 (40000 : Int32) ∈ GW := gw_of (List.mem_of_getElem? (i := 1114) (by decide +kernel)) rfl
theorem k_1224 : Cond.arrayClass .boolean ∈ GW := gw_of (List.mem_of_getElem? (i := 1224) (by decide +kernel)) rfl
def rmX6_init : Room := { frames := 1, cells := 0, slots := 0, locals := 20 }
theorem cmX6_init : CM yX6_init cX6_init 1 none 0 := ⟨k_121, k_80, by decide +kernel⟩
theorem hiX6_init : Cond.instanceMethod yX6_init ∈ GW := k_120
def rmX8_init : Room := { frames := 2, cells := 9, slots := 84, locals := 40 }
theorem cmX8_init : CM yX8_init cX8_init 2 none 0 := ⟨k_114, k_79, by decide +kernel⟩
theorem hiX8_init : Cond.instanceMethod yX8_init ∈ GW := k_113
def rmX10_init : Room := { frames := 1, cells := 1, slots := 200, locals := 20 }
theorem cmX10_init : CM yX10_init cX10_init 1 none 0 := ⟨k_197, k_81, by decide +kernel⟩
theorem hiX10_init : Cond.instanceMethod yX10_init ∈ GW := k_196
def rmX7_init : Room := { frames := 3, cells := 17, slots := 698, locals := 61 }
theorem cmX7_init : CM yX7_init cX7_init 2 none 0 := ⟨k_108, k_78, by decide +kernel⟩
theorem hiX7_init : Cond.instanceMethod yX7_init ∈ GW := k_107
def rmX9_init : Room := { frames := 1, cells := 1, slots := 160, locals := 20 }
theorem cmX9_init : CM yX9_init cX9_init 1 none 0 := ⟨k_239, k_82, by decide +kernel⟩
theorem hiX9_init : Cond.instanceMethod yX9_init ∈ GW := k_238
def rmX3_init : Room := { frames := 2, cells := 4, slots := 402, locals := 40 }
theorem cmX3_init : CM yX3_init cX3_init 1 none 0 := ⟨k_268, k_83, by decide +kernel⟩
theorem hiX3_init : Cond.instanceMethod yX3_init ∈ GW := k_267
def rmX2_init : Room := { frames := 1, cells := 2, slots := 52, locals := 20 }
theorem cmX2_init : CM yX2_init cX2_init 1 none 0 := ⟨k_292, k_84, by decide +kernel⟩
theorem hiX2_init : Cond.instanceMethod yX2_init ∈ GW := k_291
def rmX5_init : Room := { frames := 1, cells := 3, slots := 90, locals := 20 }
theorem cmX5_init : CM yX5_init cX5_init 1 none 0 := ⟨k_322, k_85, by decide +kernel⟩
theorem hiX5_init : Cond.instanceMethod yX5_init ∈ GW := k_321
def rmX0_init : Room := { frames := 1, cells := 1, slots := 200, locals := 20 }
theorem cmX0_init : CM yX0_init cX0_init 1 none 0 := ⟨k_364, k_87, by decide +kernel⟩
theorem hiX0_init : Cond.instanceMethod yX0_init ∈ GW := k_363
def rmX4_init : Room := { frames := 2, cells := 4, slots := 410, locals := 40 }
theorem cmX4_init : CM yX4_init cX4_init 1 none 0 := ⟨k_358, k_86, by decide +kernel⟩
theorem hiX4_init : Cond.instanceMethod yX4_init ∈ GW := k_357
def rmX1_init : Room := { frames := 2, cells := 4, slots := 404, locals := 40 }
theorem cmX1_init : CM yX1_init cX1_init 1 none 0 := ⟨k_430, k_88, by decide +kernel⟩
theorem hiX1_init : Cond.instanceMethod yX1_init ∈ GW := k_429
def rmX11_init : Room := { frames := 4, cells := 188, slots := 9215, locals := 82 }
theorem cmX11_init : CM yX11_init cX11_init 2 none 0 := ⟨k_100, k_77, by decide +kernel⟩
theorem hiX11_init : Cond.instanceMethod yX11_init ∈ GW := k_99
def rmX12_init : Room := { frames := 1, cells := 17, slots := 10372, locals := 20 }
theorem cmX12_init : CM yX12_init cX12_init 1 none 0 := ⟨k_1112, k_89, by decide +kernel⟩
theorem hiX12_init : Cond.instanceMethod yX12_init ∈ GW := k_1111
def g_X6_init (l0 : Nat) (s : LMm) : Option LMm :=
  some s
set_option maxHeartbeats 4000000 in
set_option maxRecDepth 100000 in
theorem t_X6_init {X : BX} {D : va_G} {cy : Nat → ClassId} {b : Nat} (hB : BB X D cy b yX6_init cX6_init 1 none rmX6_init) {l0 : Nat} {s z : LMm} (hf : g_X6_init l0 s = some z) : WW X D cy b none (mkM z) 1 0 0 0 [(0, .ref (b + l0))] [] (mkM s) := by
  unfold g_X6_init at hf
  refine r_aload_n hB 0 rfl (by decide +kernel : decode cX6_init 0 = .ok (.aload_n 0, 1)) rfl ?_
  refine r_objInit hB (own := "PulseRemote$Protocol") rfl k_122 k_102 k_103 (by decide +kernel : decode cX6_init 1 = .ok (.invokespecial 3, 3)) (by decide) (Nat.le_of_ble_eq_true rfl) ?_
  obtain rfl := Option.some.inj hf
  exact r_vret hB (by decide +kernel : decode cX6_init 4 = .ok (.return_, 1))
theorem m_X6_init (l : Launch) (D : va_G) (cy : Nat → ClassId) (b : Nat) {l0 : Nat} {s z : LMm} (hf : g_X6_init l0 s = some z) : Met l yX6_init (.code yX6_init cX6_init 1 none :: GW) rmX6_init (Pw D cy b [.ref (b + l0)] (mkM s)) (Qw D cy b none (mkM z)) rmX6_init.cells rmX6_init.slots (fun q => b ≤ q) :=
  met_of (by decide) (Nat.le_of_ble_eq_true rfl) (fun X hB _ => t_X6_init hB hf)
def g_X8_init (l0 : Nat) (s : LMm) : Option LMm :=
  (nA1 s 18 6).bind fun x5 =>
  (pR1 x5.2 8 l0 0 x5.1).bind fun m6 =>
  (nA1 m6 15 12).bind fun x9 =>
  (pR1 x9.2 8 l0 2 x9.1).bind fun m10 =>
  (nA1 m10 15 12).bind fun x13 =>
  (pR1 x13.2 8 l0 3 x13.1).bind fun m14 =>
  (gR1 m14 8 l0 0).bind fun x21 =>
  (nO1 m14 6).bind fun x23 =>
  (g_X6_init x23.1 x23.2).bind fun z25 =>
  (sR1 z25 18 6 x21 0 x23.1).bind fun m26 =>
  (gR1 m26 8 l0 0).bind fun x33 =>
  (nO1 m26 6).bind fun x35 =>
  (g_X6_init x35.1 x35.2).bind fun z37 =>
  (sR1 z37 18 6 x33 1 x35.1).bind fun m38 =>
  (gR1 m38 8 l0 0).bind fun x45 =>
  (nO1 m38 6).bind fun x47 =>
  (g_X6_init x47.1 x47.2).bind fun z49 =>
  (sR1 z49 18 6 x45 2 x47.1).bind fun m50 =>
  (gR1 m50 8 l0 0).bind fun x57 =>
  (nO1 m50 6).bind fun x59 =>
  (g_X6_init x59.1 x59.2).bind fun z61 =>
  (sR1 z61 18 6 x57 3 x59.1).bind fun m62 =>
  (gR1 m62 8 l0 0).bind fun x69 =>
  (nO1 m62 6).bind fun x71 =>
  (g_X6_init x71.1 x71.2).bind fun z73 =>
  (sR1 z73 18 6 x69 4 x71.1).bind fun m74 =>
  (gR1 m74 8 l0 0).bind fun x81 =>
  (nO1 m74 6).bind fun x83 =>
  (g_X6_init x83.1 x83.2).bind fun z85 =>
  (sR1 z85 18 6 x81 5 x83.1).bind fun m86 =>
  some m86
set_option maxHeartbeats 4000000 in
set_option maxRecDepth 100000 in
theorem t_X8_init {X : BX} {D : va_G} {cy : Nat → ClassId} {b : Nat} (hB : BB X D cy b yX8_init cX8_init 2 none rmX8_init) {l0 : Nat} {s z : LMm} (hf : g_X8_init l0 s = some z) : WW X D cy b none (mkM z) 2 9 84 0 [(0, .ref (b + l0))] [] (mkM s) := by
  unfold g_X8_init at hf
  refine r_aload_n hB 0 rfl (by decide +kernel : decode cX8_init 0 = .ok (.aload_n 0, 1)) rfl ?_
  refine r_objInit hB (own := "PulseRemote$Table") rfl k_115 k_102 k_103 (by decide +kernel : decode cX8_init 1 = .ok (.invokespecial 3, 3)) (by decide) (Nat.le_of_ble_eq_true rfl) ?_
  refine r_aload_n hB 0 rfl (by decide +kernel : decode cX8_init 4 = .ok (.aload_n 0, 1)) rfl ?_
  refine r_bipush hB (v := 6) (by decide +kernel : decode cX8_init 5 = .ok (.bipush 6, 2)) (by decide +kernel) ?_
  refine WW.mono (kc := 8 + 1) (ks := 78 + 6) (Nat.le_of_ble_eq_true rfl) (Nat.le_of_ble_eq_true rfl) (q_newR hB (t := 18) (C := RX6) (Or.inl ⟨rfl, rfl⟩) (own := "PulseRemote$Table") rfl k_116 (by decide +kernel) (by decide +kernel) (Nat.le_of_ble_eq_true rfl) (by decide +kernel : decode cX8_init 7 = .ok (.anewarray 9, 3)) hf (fun x5 hf => ?_))
  refine q_pR hB cf8 0 (by decide) (own := "PulseRemote$Table") rfl (Or.inl k_171) (Or.inr ⟨rfl, rfl, rfl, k_171⟩) (by decide +kernel) (by decide +kernel : decode cX8_init 10 = .ok (.putfield 11, 3)) hf (fun m6 hf => ?_)
  refine r_aload_n hB 0 rfl (by decide +kernel : decode cX8_init 13 = .ok (.aload_n 0, 1)) rfl ?_
  refine r_bipush hB (v := 12) (by decide +kernel : decode cX8_init 14 = .ok (.bipush 12, 2)) (by decide +kernel) ?_
  refine WW.mono (kc := 7 + 1) (ks := 66 + 12) (Nat.le_of_ble_eq_true rfl) (Nat.le_of_ble_eq_true rfl) (q_newA hB (t := 15) (at_ := .int) (Or.inr (Or.inr (Or.inl ⟨rfl, rfl⟩))) k_170 (by decide +kernel) (by decide +kernel) (Nat.le_of_ble_eq_true rfl) (by decide +kernel : decode cX8_init 16 = .ok (.newarray .int, 2)) hf (fun x9 hf => ?_))
  refine q_pR hB cf8 2 (by decide) (own := "PulseRemote$Table") rfl (Or.inl k_176) (Or.inr ⟨rfl, rfl, rfl, k_176⟩) (by decide +kernel) (by decide +kernel : decode cX8_init 18 = .ok (.putfield 17, 3)) hf (fun m10 hf => ?_)
  refine r_aload_n hB 0 rfl (by decide +kernel : decode cX8_init 21 = .ok (.aload_n 0, 1)) rfl ?_
  refine r_bipush hB (v := 12) (by decide +kernel : decode cX8_init 22 = .ok (.bipush 12, 2)) (by decide +kernel) ?_
  refine WW.mono (kc := 6 + 1) (ks := 54 + 12) (Nat.le_of_ble_eq_true rfl) (Nat.le_of_ble_eq_true rfl) (q_newA hB (t := 15) (at_ := .int) (Or.inr (Or.inr (Or.inl ⟨rfl, rfl⟩))) k_170 (by decide +kernel) (by decide +kernel) (Nat.le_of_ble_eq_true rfl) (by decide +kernel : decode cX8_init 24 = .ok (.newarray .int, 2)) hf (fun x13 hf => ?_))
  refine q_pR hB cf8 3 (by decide) (own := "PulseRemote$Table") rfl (Or.inl k_177) (Or.inr ⟨rfl, rfl, rfl, k_177⟩) (by decide +kernel) (by decide +kernel : decode cX8_init 26 = .ok (.putfield 21, 3)) hf (fun m14 hf => ?_)
  refine r_iconst hB (v := 0) (by decide +kernel : decode cX8_init 29 = .ok (.iconst 0, 1)) (by decide +kernel) ?_
  refine r_istore_n hB (by decide +kernel : decode cX8_init 30 = .ok (.istore_n 1, 1)) rfl (by decide) rfl ?_
  refine ww_lv (lv' := [(1, .int 0), (0, .ref (b + l0))]) rfl ?_
  refine r_iload_n hB 0 rfl (by decide +kernel : decode cX8_init 31 = .ok (.iload_n 1, 1)) rfl ?_
  refine r_bipush hB (v := 6) (by decide +kernel : decode cX8_init 32 = .ok (.bipush 6, 2)) (by decide +kernel) ?_
  refine r_icmp_ge hB (tgt := 56) (by decide +kernel : decode cX8_init 34 = .ok (.if_icmp .ge 22, 3)) (by decide) (show (if (6 : Int32) ≤ 0 then (none : Option Unit) else some ()) = some () by decide +kernel) (fun _ h => nomatch h) (fun _ _ => ?_)
  refine r_aload_n hB 1 rfl (by decide +kernel : decode cX8_init 37 = .ok (.aload_n 0, 1)) rfl ?_
  refine q_gR hB cf8 0 (by decide) (own := "PulseRemote$Table") rfl (Or.inl k_171) (by decide +kernel) (by decide +kernel : decode cX8_init 38 = .ok (.getfield 11, 3)) hf (fun x21 hf => ?_)
  refine r_iload_n hB 0 rfl (by decide +kernel : decode cX8_init 41 = .ok (.iload_n 1, 1)) rfl ?_
  refine WW.mono (kc := 5 + 1) (ks := 45 + 9) (Nat.le_of_ble_eq_true rfl) (Nat.le_of_ble_eq_true rfl) (q_new hB cf6 (by decide) (own := "PulseRemote$Table") rfl k_116 k_118 k_80 (by decide +kernel : decode cX8_init 42 = .ok (.new 9, 3)) hf (fun x23 hf => ?_))
  refine r_dup hB (by decide +kernel : decode cX8_init 45 = .ok (.dup, 1)) rfl ?_
  refine WW.mono (kc := 5 + rmX6_init.cells) (ks := 45 + rmX6_init.slots) (Nat.le_of_ble_eq_true rfl) (Nat.le_of_ble_eq_true rfl) (q_cI hB [] [.ref (b + x23.1), .int 0, .ref (b + x21)] (own := "PulseRemote$Table") rfl cmX6_init hiX6_init rfl (Or.inr ⟨_, k_119⟩) (by decide) rfl (Nat.le_of_ble_eq_true rfl) (by decide +kernel : decode cX8_init 46 = .ok (.invokespecial 24, 3)) (fun z hz => m_X6_init _ _ _ _ hz) rfl hf (fun z25 hf => ?_))
  refine q_aast hB (t := 18) (C := RX6) cf6 (Or.inl ⟨rfl, rfl⟩) (by decide +kernel : decode cX8_init 49 = .ok (.aastore, 1)) hf (fun m26 hf => ?_)
  refine r_iinc hB (v := 1) 0 rfl (by decide +kernel : decode cX8_init 50 = .ok (.iinc 1 1, 3)) (by decide +kernel) (by decide) rfl ?_
  refine ww_lv (lv' := [(1, .int 1), (0, .ref (b + l0))]) rfl ?_
  refine r_goto hB (tgt := 31) (by decide +kernel : decode cX8_init 53 = .ok (.goto (-22), 3)) (by decide) ?_
  refine r_iload_n hB 0 rfl (by decide +kernel : decode cX8_init 31 = .ok (.iload_n 1, 1)) rfl ?_
  refine r_bipush hB (v := 6) (by decide +kernel : decode cX8_init 32 = .ok (.bipush 6, 2)) (by decide +kernel) ?_
  refine r_icmp_ge hB (tgt := 56) (by decide +kernel : decode cX8_init 34 = .ok (.if_icmp .ge 22, 3)) (by decide) (show (if (6 : Int32) ≤ 1 then (none : Option Unit) else some ()) = some () by decide +kernel) (fun _ h => nomatch h) (fun _ _ => ?_)
  refine r_aload_n hB 1 rfl (by decide +kernel : decode cX8_init 37 = .ok (.aload_n 0, 1)) rfl ?_
  refine q_gR hB cf8 0 (by decide) (own := "PulseRemote$Table") rfl (Or.inl k_171) (by decide +kernel) (by decide +kernel : decode cX8_init 38 = .ok (.getfield 11, 3)) hf (fun x33 hf => ?_)
  refine r_iload_n hB 0 rfl (by decide +kernel : decode cX8_init 41 = .ok (.iload_n 1, 1)) rfl ?_
  refine WW.mono (kc := 4 + 1) (ks := 36 + 9) (Nat.le_of_ble_eq_true rfl) (Nat.le_of_ble_eq_true rfl) (q_new hB cf6 (by decide) (own := "PulseRemote$Table") rfl k_116 k_118 k_80 (by decide +kernel : decode cX8_init 42 = .ok (.new 9, 3)) hf (fun x35 hf => ?_))
  refine r_dup hB (by decide +kernel : decode cX8_init 45 = .ok (.dup, 1)) rfl ?_
  refine WW.mono (kc := 4 + rmX6_init.cells) (ks := 36 + rmX6_init.slots) (Nat.le_of_ble_eq_true rfl) (Nat.le_of_ble_eq_true rfl) (q_cI hB [] [.ref (b + x35.1), .int 1, .ref (b + x33)] (own := "PulseRemote$Table") rfl cmX6_init hiX6_init rfl (Or.inr ⟨_, k_119⟩) (by decide) rfl (Nat.le_of_ble_eq_true rfl) (by decide +kernel : decode cX8_init 46 = .ok (.invokespecial 24, 3)) (fun z hz => m_X6_init _ _ _ _ hz) rfl hf (fun z37 hf => ?_))
  refine q_aast hB (t := 18) (C := RX6) cf6 (Or.inl ⟨rfl, rfl⟩) (by decide +kernel : decode cX8_init 49 = .ok (.aastore, 1)) hf (fun m38 hf => ?_)
  refine r_iinc hB (v := 2) 0 rfl (by decide +kernel : decode cX8_init 50 = .ok (.iinc 1 1, 3)) (by decide +kernel) (by decide) rfl ?_
  refine ww_lv (lv' := [(1, .int 2), (0, .ref (b + l0))]) rfl ?_
  refine r_goto hB (tgt := 31) (by decide +kernel : decode cX8_init 53 = .ok (.goto (-22), 3)) (by decide) ?_
  refine r_iload_n hB 0 rfl (by decide +kernel : decode cX8_init 31 = .ok (.iload_n 1, 1)) rfl ?_
  refine r_bipush hB (v := 6) (by decide +kernel : decode cX8_init 32 = .ok (.bipush 6, 2)) (by decide +kernel) ?_
  refine r_icmp_ge hB (tgt := 56) (by decide +kernel : decode cX8_init 34 = .ok (.if_icmp .ge 22, 3)) (by decide) (show (if (6 : Int32) ≤ 2 then (none : Option Unit) else some ()) = some () by decide +kernel) (fun _ h => nomatch h) (fun _ _ => ?_)
  refine r_aload_n hB 1 rfl (by decide +kernel : decode cX8_init 37 = .ok (.aload_n 0, 1)) rfl ?_
  refine q_gR hB cf8 0 (by decide) (own := "PulseRemote$Table") rfl (Or.inl k_171) (by decide +kernel) (by decide +kernel : decode cX8_init 38 = .ok (.getfield 11, 3)) hf (fun x45 hf => ?_)
  refine r_iload_n hB 0 rfl (by decide +kernel : decode cX8_init 41 = .ok (.iload_n 1, 1)) rfl ?_
  refine WW.mono (kc := 3 + 1) (ks := 27 + 9) (Nat.le_of_ble_eq_true rfl) (Nat.le_of_ble_eq_true rfl) (q_new hB cf6 (by decide) (own := "PulseRemote$Table") rfl k_116 k_118 k_80 (by decide +kernel : decode cX8_init 42 = .ok (.new 9, 3)) hf (fun x47 hf => ?_))
  refine r_dup hB (by decide +kernel : decode cX8_init 45 = .ok (.dup, 1)) rfl ?_
  refine WW.mono (kc := 3 + rmX6_init.cells) (ks := 27 + rmX6_init.slots) (Nat.le_of_ble_eq_true rfl) (Nat.le_of_ble_eq_true rfl) (q_cI hB [] [.ref (b + x47.1), .int 2, .ref (b + x45)] (own := "PulseRemote$Table") rfl cmX6_init hiX6_init rfl (Or.inr ⟨_, k_119⟩) (by decide) rfl (Nat.le_of_ble_eq_true rfl) (by decide +kernel : decode cX8_init 46 = .ok (.invokespecial 24, 3)) (fun z hz => m_X6_init _ _ _ _ hz) rfl hf (fun z49 hf => ?_))
  refine q_aast hB (t := 18) (C := RX6) cf6 (Or.inl ⟨rfl, rfl⟩) (by decide +kernel : decode cX8_init 49 = .ok (.aastore, 1)) hf (fun m50 hf => ?_)
  refine r_iinc hB (v := 3) 0 rfl (by decide +kernel : decode cX8_init 50 = .ok (.iinc 1 1, 3)) (by decide +kernel) (by decide) rfl ?_
  refine ww_lv (lv' := [(1, .int 3), (0, .ref (b + l0))]) rfl ?_
  refine r_goto hB (tgt := 31) (by decide +kernel : decode cX8_init 53 = .ok (.goto (-22), 3)) (by decide) ?_
  refine r_iload_n hB 0 rfl (by decide +kernel : decode cX8_init 31 = .ok (.iload_n 1, 1)) rfl ?_
  refine r_bipush hB (v := 6) (by decide +kernel : decode cX8_init 32 = .ok (.bipush 6, 2)) (by decide +kernel) ?_
  refine r_icmp_ge hB (tgt := 56) (by decide +kernel : decode cX8_init 34 = .ok (.if_icmp .ge 22, 3)) (by decide) (show (if (6 : Int32) ≤ 3 then (none : Option Unit) else some ()) = some () by decide +kernel) (fun _ h => nomatch h) (fun _ _ => ?_)
  refine r_aload_n hB 1 rfl (by decide +kernel : decode cX8_init 37 = .ok (.aload_n 0, 1)) rfl ?_
  refine q_gR hB cf8 0 (by decide) (own := "PulseRemote$Table") rfl (Or.inl k_171) (by decide +kernel) (by decide +kernel : decode cX8_init 38 = .ok (.getfield 11, 3)) hf (fun x57 hf => ?_)
  refine r_iload_n hB 0 rfl (by decide +kernel : decode cX8_init 41 = .ok (.iload_n 1, 1)) rfl ?_
  refine WW.mono (kc := 2 + 1) (ks := 18 + 9) (Nat.le_of_ble_eq_true rfl) (Nat.le_of_ble_eq_true rfl) (q_new hB cf6 (by decide) (own := "PulseRemote$Table") rfl k_116 k_118 k_80 (by decide +kernel : decode cX8_init 42 = .ok (.new 9, 3)) hf (fun x59 hf => ?_))
  refine r_dup hB (by decide +kernel : decode cX8_init 45 = .ok (.dup, 1)) rfl ?_
  refine WW.mono (kc := 2 + rmX6_init.cells) (ks := 18 + rmX6_init.slots) (Nat.le_of_ble_eq_true rfl) (Nat.le_of_ble_eq_true rfl) (q_cI hB [] [.ref (b + x59.1), .int 3, .ref (b + x57)] (own := "PulseRemote$Table") rfl cmX6_init hiX6_init rfl (Or.inr ⟨_, k_119⟩) (by decide) rfl (Nat.le_of_ble_eq_true rfl) (by decide +kernel : decode cX8_init 46 = .ok (.invokespecial 24, 3)) (fun z hz => m_X6_init _ _ _ _ hz) rfl hf (fun z61 hf => ?_))
  refine q_aast hB (t := 18) (C := RX6) cf6 (Or.inl ⟨rfl, rfl⟩) (by decide +kernel : decode cX8_init 49 = .ok (.aastore, 1)) hf (fun m62 hf => ?_)
  refine r_iinc hB (v := 4) 0 rfl (by decide +kernel : decode cX8_init 50 = .ok (.iinc 1 1, 3)) (by decide +kernel) (by decide) rfl ?_
  refine ww_lv (lv' := [(1, .int 4), (0, .ref (b + l0))]) rfl ?_
  refine r_goto hB (tgt := 31) (by decide +kernel : decode cX8_init 53 = .ok (.goto (-22), 3)) (by decide) ?_
  refine r_iload_n hB 0 rfl (by decide +kernel : decode cX8_init 31 = .ok (.iload_n 1, 1)) rfl ?_
  refine r_bipush hB (v := 6) (by decide +kernel : decode cX8_init 32 = .ok (.bipush 6, 2)) (by decide +kernel) ?_
  refine r_icmp_ge hB (tgt := 56) (by decide +kernel : decode cX8_init 34 = .ok (.if_icmp .ge 22, 3)) (by decide) (show (if (6 : Int32) ≤ 4 then (none : Option Unit) else some ()) = some () by decide +kernel) (fun _ h => nomatch h) (fun _ _ => ?_)
  refine r_aload_n hB 1 rfl (by decide +kernel : decode cX8_init 37 = .ok (.aload_n 0, 1)) rfl ?_
  refine q_gR hB cf8 0 (by decide) (own := "PulseRemote$Table") rfl (Or.inl k_171) (by decide +kernel) (by decide +kernel : decode cX8_init 38 = .ok (.getfield 11, 3)) hf (fun x69 hf => ?_)
  refine r_iload_n hB 0 rfl (by decide +kernel : decode cX8_init 41 = .ok (.iload_n 1, 1)) rfl ?_
  refine WW.mono (kc := 1 + 1) (ks := 9 + 9) (Nat.le_of_ble_eq_true rfl) (Nat.le_of_ble_eq_true rfl) (q_new hB cf6 (by decide) (own := "PulseRemote$Table") rfl k_116 k_118 k_80 (by decide +kernel : decode cX8_init 42 = .ok (.new 9, 3)) hf (fun x71 hf => ?_))
  refine r_dup hB (by decide +kernel : decode cX8_init 45 = .ok (.dup, 1)) rfl ?_
  refine WW.mono (kc := 1 + rmX6_init.cells) (ks := 9 + rmX6_init.slots) (Nat.le_of_ble_eq_true rfl) (Nat.le_of_ble_eq_true rfl) (q_cI hB [] [.ref (b + x71.1), .int 4, .ref (b + x69)] (own := "PulseRemote$Table") rfl cmX6_init hiX6_init rfl (Or.inr ⟨_, k_119⟩) (by decide) rfl (Nat.le_of_ble_eq_true rfl) (by decide +kernel : decode cX8_init 46 = .ok (.invokespecial 24, 3)) (fun z hz => m_X6_init _ _ _ _ hz) rfl hf (fun z73 hf => ?_))
  refine q_aast hB (t := 18) (C := RX6) cf6 (Or.inl ⟨rfl, rfl⟩) (by decide +kernel : decode cX8_init 49 = .ok (.aastore, 1)) hf (fun m74 hf => ?_)
  refine r_iinc hB (v := 5) 0 rfl (by decide +kernel : decode cX8_init 50 = .ok (.iinc 1 1, 3)) (by decide +kernel) (by decide) rfl ?_
  refine ww_lv (lv' := [(1, .int 5), (0, .ref (b + l0))]) rfl ?_
  refine r_goto hB (tgt := 31) (by decide +kernel : decode cX8_init 53 = .ok (.goto (-22), 3)) (by decide) ?_
  refine r_iload_n hB 0 rfl (by decide +kernel : decode cX8_init 31 = .ok (.iload_n 1, 1)) rfl ?_
  refine r_bipush hB (v := 6) (by decide +kernel : decode cX8_init 32 = .ok (.bipush 6, 2)) (by decide +kernel) ?_
  refine r_icmp_ge hB (tgt := 56) (by decide +kernel : decode cX8_init 34 = .ok (.if_icmp .ge 22, 3)) (by decide) (show (if (6 : Int32) ≤ 5 then (none : Option Unit) else some ()) = some () by decide +kernel) (fun _ h => nomatch h) (fun _ _ => ?_)
  refine r_aload_n hB 1 rfl (by decide +kernel : decode cX8_init 37 = .ok (.aload_n 0, 1)) rfl ?_
  refine q_gR hB cf8 0 (by decide) (own := "PulseRemote$Table") rfl (Or.inl k_171) (by decide +kernel) (by decide +kernel : decode cX8_init 38 = .ok (.getfield 11, 3)) hf (fun x81 hf => ?_)
  refine r_iload_n hB 0 rfl (by decide +kernel : decode cX8_init 41 = .ok (.iload_n 1, 1)) rfl ?_
  refine WW.mono (kc := 0 + 1) (ks := 0 + 9) (Nat.le_of_ble_eq_true rfl) (Nat.le_of_ble_eq_true rfl) (q_new hB cf6 (by decide) (own := "PulseRemote$Table") rfl k_116 k_118 k_80 (by decide +kernel : decode cX8_init 42 = .ok (.new 9, 3)) hf (fun x83 hf => ?_))
  refine r_dup hB (by decide +kernel : decode cX8_init 45 = .ok (.dup, 1)) rfl ?_
  refine WW.mono (kc := 0 + rmX6_init.cells) (ks := 0 + rmX6_init.slots) (Nat.le_of_ble_eq_true rfl) (Nat.le_of_ble_eq_true rfl) (q_cI hB [] [.ref (b + x83.1), .int 5, .ref (b + x81)] (own := "PulseRemote$Table") rfl cmX6_init hiX6_init rfl (Or.inr ⟨_, k_119⟩) (by decide) rfl (Nat.le_of_ble_eq_true rfl) (by decide +kernel : decode cX8_init 46 = .ok (.invokespecial 24, 3)) (fun z hz => m_X6_init _ _ _ _ hz) rfl hf (fun z85 hf => ?_))
  refine q_aast hB (t := 18) (C := RX6) cf6 (Or.inl ⟨rfl, rfl⟩) (by decide +kernel : decode cX8_init 49 = .ok (.aastore, 1)) hf (fun m86 hf => ?_)
  refine r_iinc hB (v := 6) 0 rfl (by decide +kernel : decode cX8_init 50 = .ok (.iinc 1 1, 3)) (by decide +kernel) (by decide) rfl ?_
  refine ww_lv (lv' := [(1, .int 6), (0, .ref (b + l0))]) rfl ?_
  refine r_goto hB (tgt := 31) (by decide +kernel : decode cX8_init 53 = .ok (.goto (-22), 3)) (by decide) ?_
  refine r_iload_n hB 0 rfl (by decide +kernel : decode cX8_init 31 = .ok (.iload_n 1, 1)) rfl ?_
  refine r_bipush hB (v := 6) (by decide +kernel : decode cX8_init 32 = .ok (.bipush 6, 2)) (by decide +kernel) ?_
  refine r_icmp_ge hB (tgt := 56) (by decide +kernel : decode cX8_init 34 = .ok (.if_icmp .ge 22, 3)) (by decide) (show (if (6 : Int32) ≤ 6 then (some () : Option Unit) else none) = some () by decide +kernel) (fun _ _ => ?_) (fun _ h => nomatch h)
  obtain rfl := Option.some.inj hf
  exact r_vret hB (by decide +kernel : decode cX8_init 56 = .ok (.return_, 1))
theorem m_X8_init (l : Launch) (D : va_G) (cy : Nat → ClassId) (b : Nat) {l0 : Nat} {s z : LMm} (hf : g_X8_init l0 s = some z) : Met l yX8_init (.code yX8_init cX8_init 2 none :: GW) rmX8_init (Pw D cy b [.ref (b + l0)] (mkM s)) (Qw D cy b none (mkM z)) rmX8_init.cells rmX8_init.slots (fun q => b ≤ q) :=
  met_of (by decide) (Nat.le_of_ble_eq_true rfl) (fun X hB _ => t_X8_init hB hf)
def g_X10_init (l0 : Nat) (s : LMm) : Option LMm :=
  (nA1 s 15 200).bind fun x5 =>
  (pR1 x5.2 10 l0 0 x5.1).bind fun m6 =>
  some m6
set_option maxHeartbeats 4000000 in
set_option maxRecDepth 100000 in
theorem t_X10_init {X : BX} {D : va_G} {cy : Nat → ClassId} {b : Nat} (hB : BB X D cy b yX10_init cX10_init 1 none rmX10_init) {l0 : Nat} {s z : LMm} (hf : g_X10_init l0 s = some z) : WW X D cy b none (mkM z) 1 1 200 0 [(0, .ref (b + l0))] [] (mkM s) := by
  unfold g_X10_init at hf
  refine r_aload_n hB 0 rfl (by decide +kernel : decode cX10_init 0 = .ok (.aload_n 0, 1)) rfl ?_
  refine r_objInit hB (own := "PulseRemote$Train") rfl k_198 k_102 k_103 (by decide +kernel : decode cX10_init 1 = .ok (.invokespecial 3, 3)) (by decide) (Nat.le_of_ble_eq_true rfl) ?_
  refine r_aload_n hB 0 rfl (by decide +kernel : decode cX10_init 4 = .ok (.aload_n 0, 1)) rfl ?_
  refine r_sipush hB (v := 200) (by decide +kernel : decode cX10_init 5 = .ok (.sipush 200, 3)) (by decide +kernel) ?_
  refine WW.mono (kc := 0 + 1) (ks := 0 + 200) (Nat.le_of_ble_eq_true rfl) (Nat.le_of_ble_eq_true rfl) (q_newA hB (t := 15) (at_ := .int) (Or.inr (Or.inr (Or.inl ⟨rfl, rfl⟩))) k_170 (by decide +kernel) (by decide +kernel) (Nat.le_of_ble_eq_true rfl) (by decide +kernel : decode cX10_init 8 = .ok (.newarray .int, 2)) hf (fun x5 hf => ?_))
  refine q_pR hB cf10 0 (by decide) (own := "PulseRemote$Train") rfl (Or.inl k_199) (Or.inr ⟨rfl, rfl, rfl, k_199⟩) (by decide +kernel) (by decide +kernel : decode cX10_init 10 = .ok (.putfield 9, 3)) hf (fun m6 hf => ?_)
  obtain rfl := Option.some.inj hf
  exact r_vret hB (by decide +kernel : decode cX10_init 13 = .ok (.return_, 1))
theorem m_X10_init (l : Launch) (D : va_G) (cy : Nat → ClassId) (b : Nat) {l0 : Nat} {s z : LMm} (hf : g_X10_init l0 s = some z) : Met l yX10_init (.code yX10_init cX10_init 1 none :: GW) rmX10_init (Pw D cy b [.ref (b + l0)] (mkM s)) (Qw D cy b none (mkM z)) rmX10_init.cells rmX10_init.slots (fun q => b ≤ q) :=
  met_of (by decide) (Nat.le_of_ble_eq_true rfl) (fun X hB _ => t_X10_init hB hf)
def g_X7_init (l0 : Nat) (s : LMm) : Option LMm :=
  (nO1 s 8).bind fun x4 =>
  (g_X8_init x4.1 x4.2).bind fun z6 =>
  (pR1 z6 7 l0 0 x4.1).bind fun m7 =>
  (nA1 m7 20 3).bind fun x10 =>
  (pR1 x10.2 7 l0 1 x10.1).bind fun m11 =>
  (pI1 m11 7 l0 2 10000).bind fun m14 =>
  (pI1 m14 7 l0 3 40000).bind fun m17 =>
  (pI1 m17 7 l0 4 20).bind fun m20 =>
  (gR1 m20 7 l0 1).bind fun x27 =>
  (nO1 m20 10).bind fun x29 =>
  (g_X10_init x29.1 x29.2).bind fun z31 =>
  (sR1 z31 20 10 x27 0 x29.1).bind fun m32 =>
  (gR1 m32 7 l0 1).bind fun x39 =>
  (nO1 m32 10).bind fun x41 =>
  (g_X10_init x41.1 x41.2).bind fun z43 =>
  (sR1 z43 20 10 x39 1 x41.1).bind fun m44 =>
  (gR1 m44 7 l0 1).bind fun x51 =>
  (nO1 m44 10).bind fun x53 =>
  (g_X10_init x53.1 x53.2).bind fun z55 =>
  (sR1 z55 20 10 x51 2 x53.1).bind fun m56 =>
  some m56
set_option maxHeartbeats 4000000 in
set_option maxRecDepth 100000 in
theorem t_X7_init {X : BX} {D : va_G} {cy : Nat → ClassId} {b : Nat} (hB : BB X D cy b yX7_init cX7_init 2 none rmX7_init) {l0 : Nat} {s z : LMm} (hf : g_X7_init l0 s = some z) : WW X D cy b none (mkM z) 2 17 698 0 [(0, .ref (b + l0))] [] (mkM s) := by
  unfold g_X7_init at hf
  refine r_aload_n hB 0 rfl (by decide +kernel : decode cX7_init 0 = .ok (.aload_n 0, 1)) rfl ?_
  refine r_objInit hB (own := "PulseRemote$State") rfl k_109 k_102 k_103 (by decide +kernel : decode cX7_init 1 = .ok (.invokespecial 3, 3)) (by decide) (Nat.le_of_ble_eq_true rfl) ?_
  refine r_aload_n hB 0 rfl (by decide +kernel : decode cX7_init 4 = .ok (.aload_n 0, 1)) rfl ?_
  refine WW.mono (kc := 16 + 1) (ks := 693 + 5) (Nat.le_of_ble_eq_true rfl) (Nat.le_of_ble_eq_true rfl) (q_new hB cf8 (by decide) (own := "PulseRemote$State") rfl k_110 k_111 k_79 (by decide +kernel : decode cX7_init 5 = .ok (.new 9, 3)) hf (fun x4 hf => ?_))
  refine r_dup hB (by decide +kernel : decode cX7_init 8 = .ok (.dup, 1)) rfl ?_
  refine WW.mono (kc := 7 + rmX8_init.cells) (ks := 609 + rmX8_init.slots) (Nat.le_of_ble_eq_true rfl) (Nat.le_of_ble_eq_true rfl) (q_cI hB [] [.ref (b + x4.1), .ref (b + l0)] (own := "PulseRemote$State") rfl cmX8_init hiX8_init rfl (Or.inl k_112) (by decide) rfl (Nat.le_of_ble_eq_true rfl) (by decide +kernel : decode cX7_init 9 = .ok (.invokespecial 11, 3)) (fun z hz => m_X8_init _ _ _ _ hz) rfl hf (fun z6 hf => ?_))
  refine q_pR hB cf7 0 (by decide) (own := "PulseRemote$State") rfl (Or.inl k_210) (Or.inr ⟨rfl, rfl, rfl, k_210⟩) (by decide +kernel) (by decide +kernel : decode cX7_init 12 = .ok (.putfield 12, 3)) hf (fun m7 hf => ?_)
  refine r_aload_n hB 0 rfl (by decide +kernel : decode cX7_init 15 = .ok (.aload_n 0, 1)) rfl ?_
  refine r_iconst hB (v := 3) (by decide +kernel : decode cX7_init 16 = .ok (.iconst 3, 1)) (by decide +kernel) ?_
  refine WW.mono (kc := 6 + 1) (ks := 606 + 3) (Nat.le_of_ble_eq_true rfl) (Nat.le_of_ble_eq_true rfl) (q_newR hB (t := 20) (C := RX10) (Or.inr (Or.inr ⟨rfl, rfl⟩)) (own := "PulseRemote$State") rfl k_191 (by decide +kernel) (by decide +kernel) (Nat.le_of_ble_eq_true rfl) (by decide +kernel : decode cX7_init 17 = .ok (.anewarray 18, 3)) hf (fun x10 hf => ?_))
  refine q_pR hB cf7 1 (by decide) (own := "PulseRemote$State") rfl (Or.inl k_213) (Or.inr ⟨rfl, rfl, rfl, k_213⟩) (by decide +kernel) (by decide +kernel : decode cX7_init 20 = .ok (.putfield 20, 3)) hf (fun m11 hf => ?_)
  refine r_aload_n hB 0 rfl (by decide +kernel : decode cX7_init 23 = .ok (.aload_n 0, 1)) rfl ?_
  refine r_sipush hB (v := 10000) (by decide +kernel : decode cX7_init 24 = .ok (.sipush 10000, 3)) (by decide +kernel) ?_
  refine q_pI hB cf7 2 (by decide) (own := "PulseRemote$State") rfl (Or.inl k_214) (Or.inl rfl) rfl (by decide +kernel : decode cX7_init 27 = .ok (.putfield 24, 3)) hf (fun m14 hf => ?_)
  refine r_aload_n hB 0 rfl (by decide +kernel : decode cX7_init 30 = .ok (.aload_n 0, 1)) rfl ?_
  refine r_ldc hB (v := 40000) (own := "PulseRemote$State") rfl k_193 (by decide +kernel : decode cX7_init 31 = .ok (.ldc 28, 2)) ?_
  refine q_pI hB cf7 3 (by decide) (own := "PulseRemote$State") rfl (Or.inl k_217) (Or.inl rfl) rfl (by decide +kernel : decode cX7_init 33 = .ok (.putfield 29, 3)) hf (fun m17 hf => ?_)
  refine r_aload_n hB 0 rfl (by decide +kernel : decode cX7_init 36 = .ok (.aload_n 0, 1)) rfl ?_
  refine r_bipush hB (v := 20) (by decide +kernel : decode cX7_init 37 = .ok (.bipush 20, 2)) (by decide +kernel) ?_
  refine q_pI hB cf7 4 (by decide) (own := "PulseRemote$State") rfl (Or.inl k_220) (Or.inl rfl) rfl (by decide +kernel : decode cX7_init 39 = .ok (.putfield 32, 3)) hf (fun m20 hf => ?_)
  refine r_iconst hB (v := 0) (by decide +kernel : decode cX7_init 42 = .ok (.iconst 0, 1)) (by decide +kernel) ?_
  refine r_istore_n hB (by decide +kernel : decode cX7_init 43 = .ok (.istore_n 1, 1)) rfl (by decide) rfl ?_
  refine ww_lv (lv' := [(1, .int 0), (0, .ref (b + l0))]) rfl ?_
  refine r_iload_n hB 0 rfl (by decide +kernel : decode cX7_init 44 = .ok (.iload_n 1, 1)) rfl ?_
  refine r_iconst hB (v := 3) (by decide +kernel : decode cX7_init 45 = .ok (.iconst 3, 1)) (by decide +kernel) ?_
  refine r_icmp_ge hB (tgt := 68) (by decide +kernel : decode cX7_init 46 = .ok (.if_icmp .ge 22, 3)) (by decide) (show (if (3 : Int32) ≤ 0 then (none : Option Unit) else some ()) = some () by decide +kernel) (fun _ h => nomatch h) (fun _ _ => ?_)
  refine r_aload_n hB 1 rfl (by decide +kernel : decode cX7_init 49 = .ok (.aload_n 0, 1)) rfl ?_
  refine q_gR hB cf7 1 (by decide) (own := "PulseRemote$State") rfl (Or.inl k_213) (by decide +kernel) (by decide +kernel : decode cX7_init 50 = .ok (.getfield 20, 3)) hf (fun x27 hf => ?_)
  refine r_iload_n hB 0 rfl (by decide +kernel : decode cX7_init 53 = .ok (.iload_n 1, 1)) rfl ?_
  refine WW.mono (kc := 5 + 1) (ks := 604 + 2) (Nat.le_of_ble_eq_true rfl) (Nat.le_of_ble_eq_true rfl) (q_new hB cf10 (by decide) (own := "PulseRemote$State") rfl k_191 k_194 k_81 (by decide +kernel : decode cX7_init 54 = .ok (.new 18, 3)) hf (fun x29 hf => ?_))
  refine r_dup hB (by decide +kernel : decode cX7_init 57 = .ok (.dup, 1)) rfl ?_
  refine WW.mono (kc := 4 + rmX10_init.cells) (ks := 404 + rmX10_init.slots) (Nat.le_of_ble_eq_true rfl) (Nat.le_of_ble_eq_true rfl) (q_cI hB [] [.ref (b + x29.1), .int 0, .ref (b + x27)] (own := "PulseRemote$State") rfl cmX10_init hiX10_init rfl (Or.inr ⟨_, k_195⟩) (by decide) rfl (Nat.le_of_ble_eq_true rfl) (by decide +kernel : decode cX7_init 58 = .ok (.invokespecial 35, 3)) (fun z hz => m_X10_init _ _ _ _ hz) rfl hf (fun z31 hf => ?_))
  refine q_aast hB (t := 20) (C := RX10) cf10 (Or.inr (Or.inr ⟨rfl, rfl⟩)) (by decide +kernel : decode cX7_init 61 = .ok (.aastore, 1)) hf (fun m32 hf => ?_)
  refine r_iinc hB (v := 1) 0 rfl (by decide +kernel : decode cX7_init 62 = .ok (.iinc 1 1, 3)) (by decide +kernel) (by decide) rfl ?_
  refine ww_lv (lv' := [(1, .int 1), (0, .ref (b + l0))]) rfl ?_
  refine r_goto hB (tgt := 44) (by decide +kernel : decode cX7_init 65 = .ok (.goto (-21), 3)) (by decide) ?_
  refine r_iload_n hB 0 rfl (by decide +kernel : decode cX7_init 44 = .ok (.iload_n 1, 1)) rfl ?_
  refine r_iconst hB (v := 3) (by decide +kernel : decode cX7_init 45 = .ok (.iconst 3, 1)) (by decide +kernel) ?_
  refine r_icmp_ge hB (tgt := 68) (by decide +kernel : decode cX7_init 46 = .ok (.if_icmp .ge 22, 3)) (by decide) (show (if (3 : Int32) ≤ 1 then (none : Option Unit) else some ()) = some () by decide +kernel) (fun _ h => nomatch h) (fun _ _ => ?_)
  refine r_aload_n hB 1 rfl (by decide +kernel : decode cX7_init 49 = .ok (.aload_n 0, 1)) rfl ?_
  refine q_gR hB cf7 1 (by decide) (own := "PulseRemote$State") rfl (Or.inl k_213) (by decide +kernel) (by decide +kernel : decode cX7_init 50 = .ok (.getfield 20, 3)) hf (fun x39 hf => ?_)
  refine r_iload_n hB 0 rfl (by decide +kernel : decode cX7_init 53 = .ok (.iload_n 1, 1)) rfl ?_
  refine WW.mono (kc := 3 + 1) (ks := 402 + 2) (Nat.le_of_ble_eq_true rfl) (Nat.le_of_ble_eq_true rfl) (q_new hB cf10 (by decide) (own := "PulseRemote$State") rfl k_191 k_194 k_81 (by decide +kernel : decode cX7_init 54 = .ok (.new 18, 3)) hf (fun x41 hf => ?_))
  refine r_dup hB (by decide +kernel : decode cX7_init 57 = .ok (.dup, 1)) rfl ?_
  refine WW.mono (kc := 2 + rmX10_init.cells) (ks := 202 + rmX10_init.slots) (Nat.le_of_ble_eq_true rfl) (Nat.le_of_ble_eq_true rfl) (q_cI hB [] [.ref (b + x41.1), .int 1, .ref (b + x39)] (own := "PulseRemote$State") rfl cmX10_init hiX10_init rfl (Or.inr ⟨_, k_195⟩) (by decide) rfl (Nat.le_of_ble_eq_true rfl) (by decide +kernel : decode cX7_init 58 = .ok (.invokespecial 35, 3)) (fun z hz => m_X10_init _ _ _ _ hz) rfl hf (fun z43 hf => ?_))
  refine q_aast hB (t := 20) (C := RX10) cf10 (Or.inr (Or.inr ⟨rfl, rfl⟩)) (by decide +kernel : decode cX7_init 61 = .ok (.aastore, 1)) hf (fun m44 hf => ?_)
  refine r_iinc hB (v := 2) 0 rfl (by decide +kernel : decode cX7_init 62 = .ok (.iinc 1 1, 3)) (by decide +kernel) (by decide) rfl ?_
  refine ww_lv (lv' := [(1, .int 2), (0, .ref (b + l0))]) rfl ?_
  refine r_goto hB (tgt := 44) (by decide +kernel : decode cX7_init 65 = .ok (.goto (-21), 3)) (by decide) ?_
  refine r_iload_n hB 0 rfl (by decide +kernel : decode cX7_init 44 = .ok (.iload_n 1, 1)) rfl ?_
  refine r_iconst hB (v := 3) (by decide +kernel : decode cX7_init 45 = .ok (.iconst 3, 1)) (by decide +kernel) ?_
  refine r_icmp_ge hB (tgt := 68) (by decide +kernel : decode cX7_init 46 = .ok (.if_icmp .ge 22, 3)) (by decide) (show (if (3 : Int32) ≤ 2 then (none : Option Unit) else some ()) = some () by decide +kernel) (fun _ h => nomatch h) (fun _ _ => ?_)
  refine r_aload_n hB 1 rfl (by decide +kernel : decode cX7_init 49 = .ok (.aload_n 0, 1)) rfl ?_
  refine q_gR hB cf7 1 (by decide) (own := "PulseRemote$State") rfl (Or.inl k_213) (by decide +kernel) (by decide +kernel : decode cX7_init 50 = .ok (.getfield 20, 3)) hf (fun x51 hf => ?_)
  refine r_iload_n hB 0 rfl (by decide +kernel : decode cX7_init 53 = .ok (.iload_n 1, 1)) rfl ?_
  refine WW.mono (kc := 1 + 1) (ks := 200 + 2) (Nat.le_of_ble_eq_true rfl) (Nat.le_of_ble_eq_true rfl) (q_new hB cf10 (by decide) (own := "PulseRemote$State") rfl k_191 k_194 k_81 (by decide +kernel : decode cX7_init 54 = .ok (.new 18, 3)) hf (fun x53 hf => ?_))
  refine r_dup hB (by decide +kernel : decode cX7_init 57 = .ok (.dup, 1)) rfl ?_
  refine WW.mono (kc := 0 + rmX10_init.cells) (ks := 0 + rmX10_init.slots) (Nat.le_of_ble_eq_true rfl) (Nat.le_of_ble_eq_true rfl) (q_cI hB [] [.ref (b + x53.1), .int 2, .ref (b + x51)] (own := "PulseRemote$State") rfl cmX10_init hiX10_init rfl (Or.inr ⟨_, k_195⟩) (by decide) rfl (Nat.le_of_ble_eq_true rfl) (by decide +kernel : decode cX7_init 58 = .ok (.invokespecial 35, 3)) (fun z hz => m_X10_init _ _ _ _ hz) rfl hf (fun z55 hf => ?_))
  refine q_aast hB (t := 20) (C := RX10) cf10 (Or.inr (Or.inr ⟨rfl, rfl⟩)) (by decide +kernel : decode cX7_init 61 = .ok (.aastore, 1)) hf (fun m56 hf => ?_)
  refine r_iinc hB (v := 3) 0 rfl (by decide +kernel : decode cX7_init 62 = .ok (.iinc 1 1, 3)) (by decide +kernel) (by decide) rfl ?_
  refine ww_lv (lv' := [(1, .int 3), (0, .ref (b + l0))]) rfl ?_
  refine r_goto hB (tgt := 44) (by decide +kernel : decode cX7_init 65 = .ok (.goto (-21), 3)) (by decide) ?_
  refine r_iload_n hB 0 rfl (by decide +kernel : decode cX7_init 44 = .ok (.iload_n 1, 1)) rfl ?_
  refine r_iconst hB (v := 3) (by decide +kernel : decode cX7_init 45 = .ok (.iconst 3, 1)) (by decide +kernel) ?_
  refine r_icmp_ge hB (tgt := 68) (by decide +kernel : decode cX7_init 46 = .ok (.if_icmp .ge 22, 3)) (by decide) (show (if (3 : Int32) ≤ 3 then (some () : Option Unit) else none) = some () by decide +kernel) (fun _ _ => ?_) (fun _ h => nomatch h)
  obtain rfl := Option.some.inj hf
  exact r_vret hB (by decide +kernel : decode cX7_init 68 = .ok (.return_, 1))
theorem m_X7_init (l : Launch) (D : va_G) (cy : Nat → ClassId) (b : Nat) {l0 : Nat} {s z : LMm} (hf : g_X7_init l0 s = some z) : Met l yX7_init (.code yX7_init cX7_init 2 none :: GW) rmX7_init (Pw D cy b [.ref (b + l0)] (mkM s)) (Qw D cy b none (mkM z)) rmX7_init.cells rmX7_init.slots (fun q => b ≤ q) :=
  met_of (by decide) (Nat.le_of_ble_eq_true rfl) (fun X hB _ => t_X7_init hB hf)
def g_X9_init (l0 : Nat) (s : LMm) : Option LMm :=
  (nA1 s 14 160).bind fun x5 =>
  (pR1 x5.2 9 l0 0 x5.1).bind fun m6 =>
  some m6
set_option maxHeartbeats 4000000 in
set_option maxRecDepth 100000 in
theorem t_X9_init {X : BX} {D : va_G} {cy : Nat → ClassId} {b : Nat} (hB : BB X D cy b yX9_init cX9_init 1 none rmX9_init) {l0 : Nat} {s z : LMm} (hf : g_X9_init l0 s = some z) : WW X D cy b none (mkM z) 1 1 160 0 [(0, .ref (b + l0))] [] (mkM s) := by
  unfold g_X9_init at hf
  refine r_aload_n hB 0 rfl (by decide +kernel : decode cX9_init 0 = .ok (.aload_n 0, 1)) rfl ?_
  refine r_objInit hB (own := "PulseRemote$Text") rfl k_240 k_102 k_103 (by decide +kernel : decode cX9_init 1 = .ok (.invokespecial 3, 3)) (by decide) (Nat.le_of_ble_eq_true rfl) ?_
  refine r_aload_n hB 0 rfl (by decide +kernel : decode cX9_init 4 = .ok (.aload_n 0, 1)) rfl ?_
  refine r_sipush hB (v := 160) (by decide +kernel : decode cX9_init 5 = .ok (.sipush 160, 3)) (by decide +kernel) ?_
  refine WW.mono (kc := 0 + 1) (ks := 0 + 160) (Nat.le_of_ble_eq_true rfl) (Nat.le_of_ble_eq_true rfl) (q_newA hB (t := 14) (at_ := .char) (Or.inr (Or.inl ⟨rfl, rfl⟩)) k_259 (by decide +kernel) (by decide +kernel) (Nat.le_of_ble_eq_true rfl) (by decide +kernel : decode cX9_init 8 = .ok (.newarray .char, 2)) hf (fun x5 hf => ?_))
  refine q_pR hB cf9 0 (by decide) (own := "PulseRemote$Text") rfl (Or.inl k_241) (Or.inr ⟨rfl, rfl, rfl, k_241⟩) (by decide +kernel) (by decide +kernel : decode cX9_init 10 = .ok (.putfield 9, 3)) hf (fun m6 hf => ?_)
  obtain rfl := Option.some.inj hf
  exact r_vret hB (by decide +kernel : decode cX9_init 13 = .ok (.return_, 1))
theorem m_X9_init (l : Launch) (D : va_G) (cy : Nat → ClassId) (b : Nat) {l0 : Nat} {s z : LMm} (hf : g_X9_init l0 s = some z) : Met l yX9_init (.code yX9_init cX9_init 1 none :: GW) rmX9_init (Pw D cy b [.ref (b + l0)] (mkM s)) (Qw D cy b none (mkM z)) rmX9_init.cells rmX9_init.slots (fun q => b ≤ q) :=
  met_of (by decide) (Nat.le_of_ble_eq_true rfl) (fun X hB _ => t_X9_init hB hf)
def g_X3_init (l0 : Nat) (s : LMm) : Option LMm :=
  (nA1 s 15 100).bind fun x5 =>
  (pR1 x5.2 3 l0 0 x5.1).bind fun m6 =>
  (nA1 m6 15 100).bind fun x9 =>
  (pR1 x9.2 3 l0 1 x9.1).bind fun m10 =>
  (nO1 m10 10).bind fun x12 =>
  (g_X10_init x12.1 x12.2).bind fun z14 =>
  (pR1 z14 3 l0 3 x12.1).bind fun m15 =>
  some m15
set_option maxHeartbeats 4000000 in
set_option maxRecDepth 100000 in
theorem t_X3_init {X : BX} {D : va_G} {cy : Nat → ClassId} {b : Nat} (hB : BB X D cy b yX3_init cX3_init 1 none rmX3_init) {l0 : Nat} {s z : LMm} (hf : g_X3_init l0 s = some z) : WW X D cy b none (mkM z) 1 4 402 0 [(0, .ref (b + l0))] [] (mkM s) := by
  unfold g_X3_init at hf
  refine r_aload_n hB 0 rfl (by decide +kernel : decode cX3_init 0 = .ok (.aload_n 0, 1)) rfl ?_
  refine r_objInit hB (own := "PulseRemote$FrameList") rfl k_269 k_102 k_103 (by decide +kernel : decode cX3_init 1 = .ok (.invokespecial 3, 3)) (by decide) (Nat.le_of_ble_eq_true rfl) ?_
  refine r_aload_n hB 0 rfl (by decide +kernel : decode cX3_init 4 = .ok (.aload_n 0, 1)) rfl ?_
  refine r_bipush hB (v := 100) (by decide +kernel : decode cX3_init 5 = .ok (.bipush 100, 2)) (by decide +kernel) ?_
  refine WW.mono (kc := 3 + 1) (ks := 302 + 100) (Nat.le_of_ble_eq_true rfl) (Nat.le_of_ble_eq_true rfl) (q_newA hB (t := 15) (at_ := .int) (Or.inr (Or.inr (Or.inl ⟨rfl, rfl⟩))) k_170 (by decide +kernel) (by decide +kernel) (Nat.le_of_ble_eq_true rfl) (by decide +kernel : decode cX3_init 7 = .ok (.newarray .int, 2)) hf (fun x5 hf => ?_))
  refine q_pR hB cf3 0 (by decide) (own := "PulseRemote$FrameList") rfl (Or.inl k_272) (Or.inr ⟨rfl, rfl, rfl, k_272⟩) (by decide +kernel) (by decide +kernel : decode cX3_init 9 = .ok (.putfield 9, 3)) hf (fun m6 hf => ?_)
  refine r_aload_n hB 0 rfl (by decide +kernel : decode cX3_init 12 = .ok (.aload_n 0, 1)) rfl ?_
  refine r_bipush hB (v := 100) (by decide +kernel : decode cX3_init 13 = .ok (.bipush 100, 2)) (by decide +kernel) ?_
  refine WW.mono (kc := 2 + 1) (ks := 202 + 100) (Nat.le_of_ble_eq_true rfl) (Nat.le_of_ble_eq_true rfl) (q_newA hB (t := 15) (at_ := .int) (Or.inr (Or.inr (Or.inl ⟨rfl, rfl⟩))) k_170 (by decide +kernel) (by decide +kernel) (Nat.le_of_ble_eq_true rfl) (by decide +kernel : decode cX3_init 15 = .ok (.newarray .int, 2)) hf (fun x9 hf => ?_))
  refine q_pR hB cf3 1 (by decide) (own := "PulseRemote$FrameList") rfl (Or.inl k_273) (Or.inr ⟨rfl, rfl, rfl, k_273⟩) (by decide +kernel) (by decide +kernel : decode cX3_init 17 = .ok (.putfield 15, 3)) hf (fun m10 hf => ?_)
  refine r_aload_n hB 0 rfl (by decide +kernel : decode cX3_init 20 = .ok (.aload_n 0, 1)) rfl ?_
  refine WW.mono (kc := 1 + 1) (ks := 200 + 2) (Nat.le_of_ble_eq_true rfl) (Nat.le_of_ble_eq_true rfl) (q_new hB cf10 (by decide) (own := "PulseRemote$FrameList") rfl k_270 k_194 k_81 (by decide +kernel : decode cX3_init 21 = .ok (.new 18, 3)) hf (fun x12 hf => ?_))
  refine r_dup hB (by decide +kernel : decode cX3_init 24 = .ok (.dup, 1)) rfl ?_
  refine WW.mono (kc := 0 + rmX10_init.cells) (ks := 0 + rmX10_init.slots) (Nat.le_of_ble_eq_true rfl) (Nat.le_of_ble_eq_true rfl) (q_cI hB [] [.ref (b + x12.1), .ref (b + l0)] (own := "PulseRemote$FrameList") rfl cmX10_init hiX10_init rfl (Or.inr ⟨_, k_271⟩) (by decide) rfl (Nat.le_of_ble_eq_true rfl) (by decide +kernel : decode cX3_init 25 = .ok (.invokespecial 20, 3)) (fun z hz => m_X10_init _ _ _ _ hz) rfl hf (fun z14 hf => ?_))
  refine q_pR hB cf3 3 (by decide) (own := "PulseRemote$FrameList") rfl (Or.inl k_278) (Or.inr ⟨rfl, rfl, rfl, k_278⟩) (by decide +kernel) (by decide +kernel : decode cX3_init 28 = .ok (.putfield 21, 3)) hf (fun m15 hf => ?_)
  obtain rfl := Option.some.inj hf
  exact r_vret hB (by decide +kernel : decode cX3_init 31 = .ok (.return_, 1))
theorem m_X3_init (l : Launch) (D : va_G) (cy : Nat → ClassId) (b : Nat) {l0 : Nat} {s z : LMm} (hf : g_X3_init l0 s = some z) : Met l yX3_init (.code yX3_init cX3_init 1 none :: GW) rmX3_init (Pw D cy b [.ref (b + l0)] (mkM s)) (Qw D cy b none (mkM z)) rmX3_init.cells rmX3_init.slots (fun q => b ≤ q) :=
  met_of (by decide) (Nat.le_of_ble_eq_true rfl) (fun X hB _ => t_X3_init hB hf)
def g_X2_init (l0 : Nat) (s : LMm) : Option LMm :=
  (pI1 s 2 l0 0 ((-9))).bind fun m5 =>
  (pI1 m5 2 l0 1 ((-9))).bind fun m8 =>
  (nA1 m8 15 35).bind fun x11 =>
  (pR1 x11.2 2 l0 2 x11.1).bind fun m12 =>
  (nA1 m12 16 17).bind fun x15 =>
  (pR1 x15.2 2 l0 5 x15.1).bind fun m16 =>
  some m16
set_option maxHeartbeats 4000000 in
set_option maxRecDepth 100000 in
theorem t_X2_init {X : BX} {D : va_G} {cy : Nat → ClassId} {b : Nat} (hB : BB X D cy b yX2_init cX2_init 1 none rmX2_init) {l0 : Nat} {s z : LMm} (hf : g_X2_init l0 s = some z) : WW X D cy b none (mkM z) 1 2 52 0 [(0, .ref (b + l0))] [] (mkM s) := by
  unfold g_X2_init at hf
  refine r_aload_n hB 0 rfl (by decide +kernel : decode cX2_init 0 = .ok (.aload_n 0, 1)) rfl ?_
  refine r_objInit hB (own := "PulseRemote$Decoder") rfl k_293 k_102 k_103 (by decide +kernel : decode cX2_init 1 = .ok (.invokespecial 3, 3)) (by decide) (Nat.le_of_ble_eq_true rfl) ?_
  refine r_aload_n hB 0 rfl (by decide +kernel : decode cX2_init 4 = .ok (.aload_n 0, 1)) rfl ?_
  refine r_bipush hB (v := (-9)) (by decide +kernel : decode cX2_init 5 = .ok (.bipush (-9), 2)) (by decide +kernel) ?_
  refine q_pI hB cf2 0 (by decide) (own := "PulseRemote$Decoder") rfl (Or.inl k_294) (Or.inl rfl) rfl (by decide +kernel : decode cX2_init 7 = .ok (.putfield 9, 3)) hf (fun m5 hf => ?_)
  refine r_aload_n hB 0 rfl (by decide +kernel : decode cX2_init 10 = .ok (.aload_n 0, 1)) rfl ?_
  refine r_bipush hB (v := (-9)) (by decide +kernel : decode cX2_init 11 = .ok (.bipush (-9), 2)) (by decide +kernel) ?_
  refine q_pI hB cf2 1 (by decide) (own := "PulseRemote$Decoder") rfl (Or.inl k_297) (Or.inl rfl) rfl (by decide +kernel : decode cX2_init 13 = .ok (.putfield 15, 3)) hf (fun m8 hf => ?_)
  refine r_aload_n hB 0 rfl (by decide +kernel : decode cX2_init 16 = .ok (.aload_n 0, 1)) rfl ?_
  refine r_bipush hB (v := 35) (by decide +kernel : decode cX2_init 17 = .ok (.bipush 35, 2)) (by decide +kernel) ?_
  refine WW.mono (kc := 1 + 1) (ks := 17 + 35) (Nat.le_of_ble_eq_true rfl) (Nat.le_of_ble_eq_true rfl) (q_newA hB (t := 15) (at_ := .int) (Or.inr (Or.inr (Or.inl ⟨rfl, rfl⟩))) k_170 (by decide +kernel) (by decide +kernel) (Nat.le_of_ble_eq_true rfl) (by decide +kernel : decode cX2_init 19 = .ok (.newarray .int, 2)) hf (fun x11 hf => ?_))
  refine q_pR hB cf2 2 (by decide) (own := "PulseRemote$Decoder") rfl (Or.inl k_300) (Or.inr ⟨rfl, rfl, rfl, k_300⟩) (by decide +kernel) (by decide +kernel : decode cX2_init 21 = .ok (.putfield 18, 3)) hf (fun m12 hf => ?_)
  refine r_aload_n hB 0 rfl (by decide +kernel : decode cX2_init 24 = .ok (.aload_n 0, 1)) rfl ?_
  refine r_bipush hB (v := 17) (by decide +kernel : decode cX2_init 25 = .ok (.bipush 17, 2)) (by decide +kernel) ?_
  refine WW.mono (kc := 0 + 1) (ks := 0 + 17) (Nat.le_of_ble_eq_true rfl) (Nat.le_of_ble_eq_true rfl) (q_newA hB (t := 16) (at_ := .long) (Or.inr (Or.inr (Or.inr (Or.inl ⟨rfl, rfl⟩)))) k_317 (by decide +kernel) (by decide +kernel) (Nat.le_of_ble_eq_true rfl) (by decide +kernel : decode cX2_init 27 = .ok (.newarray .long, 2)) hf (fun x15 hf => ?_))
  refine q_pR hB cf2 5 (by decide) (own := "PulseRemote$Decoder") rfl (Or.inl k_303) (Or.inr ⟨rfl, rfl, rfl, k_303⟩) (by decide +kernel) (by decide +kernel : decode cX2_init 29 = .ok (.putfield 22, 3)) hf (fun m16 hf => ?_)
  obtain rfl := Option.some.inj hf
  exact r_vret hB (by decide +kernel : decode cX2_init 32 = .ok (.return_, 1))
theorem m_X2_init (l : Launch) (D : va_G) (cy : Nat → ClassId) (b : Nat) {l0 : Nat} {s z : LMm} (hf : g_X2_init l0 s = some z) : Met l yX2_init (.code yX2_init cX2_init 1 none :: GW) rmX2_init (Pw D cy b [.ref (b + l0)] (mkM s)) (Qw D cy b none (mkM z)) rmX2_init.cells rmX2_init.slots (fun q => b ≤ q) :=
  met_of (by decide) (Nat.le_of_ble_eq_true rfl) (fun X hB _ => t_X2_init hB hf)
def g_X5_init (l0 : Nat) (s : LMm) : Option LMm :=
  (nA1 s 15 30).bind fun x5 =>
  (pR1 x5.2 5 l0 0 x5.1).bind fun m6 =>
  (nA1 m6 15 30).bind fun x9 =>
  (pR1 x9.2 5 l0 1 x9.1).bind fun m10 =>
  (nA1 m10 15 30).bind fun x13 =>
  (pR1 x13.2 5 l0 2 x13.1).bind fun m14 =>
  some m14
set_option maxHeartbeats 4000000 in
set_option maxRecDepth 100000 in
theorem t_X5_init {X : BX} {D : va_G} {cy : Nat → ClassId} {b : Nat} (hB : BB X D cy b yX5_init cX5_init 1 none rmX5_init) {l0 : Nat} {s z : LMm} (hf : g_X5_init l0 s = some z) : WW X D cy b none (mkM z) 1 3 90 0 [(0, .ref (b + l0))] [] (mkM s) := by
  unfold g_X5_init at hf
  refine r_aload_n hB 0 rfl (by decide +kernel : decode cX5_init 0 = .ok (.aload_n 0, 1)) rfl ?_
  refine r_objInit hB (own := "PulseRemote$PressList") rfl k_323 k_102 k_103 (by decide +kernel : decode cX5_init 1 = .ok (.invokespecial 3, 3)) (by decide) (Nat.le_of_ble_eq_true rfl) ?_
  refine r_aload_n hB 0 rfl (by decide +kernel : decode cX5_init 4 = .ok (.aload_n 0, 1)) rfl ?_
  refine r_bipush hB (v := 30) (by decide +kernel : decode cX5_init 5 = .ok (.bipush 30, 2)) (by decide +kernel) ?_
  refine WW.mono (kc := 2 + 1) (ks := 60 + 30) (Nat.le_of_ble_eq_true rfl) (Nat.le_of_ble_eq_true rfl) (q_newA hB (t := 15) (at_ := .int) (Or.inr (Or.inr (Or.inl ⟨rfl, rfl⟩))) k_170 (by decide +kernel) (by decide +kernel) (Nat.le_of_ble_eq_true rfl) (by decide +kernel : decode cX5_init 7 = .ok (.newarray .int, 2)) hf (fun x5 hf => ?_))
  refine q_pR hB cf5 0 (by decide) (own := "PulseRemote$PressList") rfl (Or.inl k_324) (Or.inr ⟨rfl, rfl, rfl, k_324⟩) (by decide +kernel) (by decide +kernel : decode cX5_init 9 = .ok (.putfield 9, 3)) hf (fun m6 hf => ?_)
  refine r_aload_n hB 0 rfl (by decide +kernel : decode cX5_init 12 = .ok (.aload_n 0, 1)) rfl ?_
  refine r_bipush hB (v := 30) (by decide +kernel : decode cX5_init 13 = .ok (.bipush 30, 2)) (by decide +kernel) ?_
  refine WW.mono (kc := 1 + 1) (ks := 30 + 30) (Nat.le_of_ble_eq_true rfl) (Nat.le_of_ble_eq_true rfl) (q_newA hB (t := 15) (at_ := .int) (Or.inr (Or.inr (Or.inl ⟨rfl, rfl⟩))) k_170 (by decide +kernel) (by decide +kernel) (Nat.le_of_ble_eq_true rfl) (by decide +kernel : decode cX5_init 15 = .ok (.newarray .int, 2)) hf (fun x9 hf => ?_))
  refine q_pR hB cf5 1 (by decide) (own := "PulseRemote$PressList") rfl (Or.inl k_326) (Or.inr ⟨rfl, rfl, rfl, k_326⟩) (by decide +kernel) (by decide +kernel : decode cX5_init 17 = .ok (.putfield 15, 3)) hf (fun m10 hf => ?_)
  refine r_aload_n hB 0 rfl (by decide +kernel : decode cX5_init 20 = .ok (.aload_n 0, 1)) rfl ?_
  refine r_bipush hB (v := 30) (by decide +kernel : decode cX5_init 21 = .ok (.bipush 30, 2)) (by decide +kernel) ?_
  refine WW.mono (kc := 0 + 1) (ks := 0 + 30) (Nat.le_of_ble_eq_true rfl) (Nat.le_of_ble_eq_true rfl) (q_newA hB (t := 15) (at_ := .int) (Or.inr (Or.inr (Or.inl ⟨rfl, rfl⟩))) k_170 (by decide +kernel) (by decide +kernel) (Nat.le_of_ble_eq_true rfl) (by decide +kernel : decode cX5_init 23 = .ok (.newarray .int, 2)) hf (fun x13 hf => ?_))
  refine q_pR hB cf5 2 (by decide) (own := "PulseRemote$PressList") rfl (Or.inl k_328) (Or.inr ⟨rfl, rfl, rfl, k_328⟩) (by decide +kernel) (by decide +kernel : decode cX5_init 25 = .ok (.putfield 18, 3)) hf (fun m14 hf => ?_)
  obtain rfl := Option.some.inj hf
  exact r_vret hB (by decide +kernel : decode cX5_init 28 = .ok (.return_, 1))
theorem m_X5_init (l : Launch) (D : va_G) (cy : Nat → ClassId) (b : Nat) {l0 : Nat} {s z : LMm} (hf : g_X5_init l0 s = some z) : Met l yX5_init (.code yX5_init cX5_init 1 none :: GW) rmX5_init (Pw D cy b [.ref (b + l0)] (mkM s)) (Qw D cy b none (mkM z)) rmX5_init.cells rmX5_init.slots (fun q => b ≤ q) :=
  met_of (by decide) (Nat.le_of_ble_eq_true rfl) (fun X hB _ => t_X5_init hB hf)
def g_X0_init (l0 : Nat) (s : LMm) : Option LMm :=
  (nA1 s 15 200).bind fun x5 =>
  (pR1 x5.2 0 l0 0 x5.1).bind fun m6 =>
  some m6
set_option maxHeartbeats 4000000 in
set_option maxRecDepth 100000 in
theorem t_X0_init {X : BX} {D : va_G} {cy : Nat → ClassId} {b : Nat} (hB : BB X D cy b yX0_init cX0_init 1 none rmX0_init) {l0 : Nat} {s z : LMm} (hf : g_X0_init l0 s = some z) : WW X D cy b none (mkM z) 1 1 200 0 [(0, .ref (b + l0))] [] (mkM s) := by
  unfold g_X0_init at hf
  refine r_aload_n hB 0 rfl (by decide +kernel : decode cX0_init 0 = .ok (.aload_n 0, 1)) rfl ?_
  refine r_objInit hB (own := "PulseRemote$Clusters") rfl k_365 k_102 k_103 (by decide +kernel : decode cX0_init 1 = .ok (.invokespecial 3, 3)) (by decide) (Nat.le_of_ble_eq_true rfl) ?_
  refine r_aload_n hB 0 rfl (by decide +kernel : decode cX0_init 4 = .ok (.aload_n 0, 1)) rfl ?_
  refine r_sipush hB (v := 200) (by decide +kernel : decode cX0_init 5 = .ok (.sipush 200, 3)) (by decide +kernel) ?_
  refine WW.mono (kc := 0 + 1) (ks := 0 + 200) (Nat.le_of_ble_eq_true rfl) (Nat.le_of_ble_eq_true rfl) (q_newA hB (t := 15) (at_ := .int) (Or.inr (Or.inr (Or.inl ⟨rfl, rfl⟩))) k_170 (by decide +kernel) (by decide +kernel) (Nat.le_of_ble_eq_true rfl) (by decide +kernel : decode cX0_init 8 = .ok (.newarray .int, 2)) hf (fun x5 hf => ?_))
  refine q_pR hB cf0 0 (by decide) (own := "PulseRemote$Clusters") rfl (Or.inl k_366) (Or.inr ⟨rfl, rfl, rfl, k_366⟩) (by decide +kernel) (by decide +kernel : decode cX0_init 10 = .ok (.putfield 9, 3)) hf (fun m6 hf => ?_)
  obtain rfl := Option.some.inj hf
  exact r_vret hB (by decide +kernel : decode cX0_init 13 = .ok (.return_, 1))
theorem m_X0_init (l : Launch) (D : va_G) (cy : Nat → ClassId) (b : Nat) {l0 : Nat} {s z : LMm} (hf : g_X0_init l0 s = some z) : Met l yX0_init (.code yX0_init cX0_init 1 none :: GW) rmX0_init (Pw D cy b [.ref (b + l0)] (mkM s)) (Qw D cy b none (mkM z)) rmX0_init.cells rmX0_init.slots (fun q => b ≤ q) :=
  met_of (by decide) (Nat.le_of_ble_eq_true rfl) (fun X hB _ => t_X0_init hB hf)
def g_X4_init (l0 : Nat) (s : LMm) : Option LMm :=
  (nO1 s 0).bind fun x4 =>
  (g_X0_init x4.1 x4.2).bind fun z6 =>
  (pR1 z6 4 l0 0 x4.1).bind fun m7 =>
  (nO1 m7 0).bind fun x9 =>
  (g_X0_init x9.1 x9.2).bind fun z11 =>
  (pR1 z11 4 l0 1 x9.1).bind fun m12 =>
  some m12
set_option maxHeartbeats 4000000 in
set_option maxRecDepth 100000 in
theorem t_X4_init {X : BX} {D : va_G} {cy : Nat → ClassId} {b : Nat} (hB : BB X D cy b yX4_init cX4_init 1 none rmX4_init) {l0 : Nat} {s z : LMm} (hf : g_X4_init l0 s = some z) : WW X D cy b none (mkM z) 1 4 410 0 [(0, .ref (b + l0))] [] (mkM s) := by
  unfold g_X4_init at hf
  refine r_aload_n hB 0 rfl (by decide +kernel : decode cX4_init 0 = .ok (.aload_n 0, 1)) rfl ?_
  refine r_objInit hB (own := "PulseRemote$Learner") rfl k_359 k_102 k_103 (by decide +kernel : decode cX4_init 1 = .ok (.invokespecial 3, 3)) (by decide) (Nat.le_of_ble_eq_true rfl) ?_
  refine r_aload_n hB 0 rfl (by decide +kernel : decode cX4_init 4 = .ok (.aload_n 0, 1)) rfl ?_
  refine WW.mono (kc := 3 + 1) (ks := 405 + 5) (Nat.le_of_ble_eq_true rfl) (Nat.le_of_ble_eq_true rfl) (q_new hB cf0 (by decide) (own := "PulseRemote$Learner") rfl k_360 k_361 k_87 (by decide +kernel : decode cX4_init 5 = .ok (.new 9, 3)) hf (fun x4 hf => ?_))
  refine r_dup hB (by decide +kernel : decode cX4_init 8 = .ok (.dup, 1)) rfl ?_
  refine WW.mono (kc := 2 + rmX0_init.cells) (ks := 205 + rmX0_init.slots) (Nat.le_of_ble_eq_true rfl) (Nat.le_of_ble_eq_true rfl) (q_cI hB [] [.ref (b + x4.1), .ref (b + l0)] (own := "PulseRemote$Learner") rfl cmX0_init hiX0_init rfl (Or.inr ⟨_, k_362⟩) (by decide) rfl (Nat.le_of_ble_eq_true rfl) (by decide +kernel : decode cX4_init 9 = .ok (.invokespecial 11, 3)) (fun z hz => m_X0_init _ _ _ _ hz) rfl hf (fun z6 hf => ?_))
  refine q_pR hB cf4 0 (by decide) (own := "PulseRemote$Learner") rfl (Or.inl k_386) (Or.inr ⟨rfl, rfl, rfl, k_386⟩) (by decide +kernel) (by decide +kernel : decode cX4_init 12 = .ok (.putfield 12, 3)) hf (fun m7 hf => ?_)
  refine r_aload_n hB 0 rfl (by decide +kernel : decode cX4_init 15 = .ok (.aload_n 0, 1)) rfl ?_
  refine WW.mono (kc := 1 + 1) (ks := 200 + 5) (Nat.le_of_ble_eq_true rfl) (Nat.le_of_ble_eq_true rfl) (q_new hB cf0 (by decide) (own := "PulseRemote$Learner") rfl k_360 k_361 k_87 (by decide +kernel : decode cX4_init 16 = .ok (.new 9, 3)) hf (fun x9 hf => ?_))
  refine r_dup hB (by decide +kernel : decode cX4_init 19 = .ok (.dup, 1)) rfl ?_
  refine WW.mono (kc := 0 + rmX0_init.cells) (ks := 0 + rmX0_init.slots) (Nat.le_of_ble_eq_true rfl) (Nat.le_of_ble_eq_true rfl) (q_cI hB [] [.ref (b + x9.1), .ref (b + l0)] (own := "PulseRemote$Learner") rfl cmX0_init hiX0_init rfl (Or.inr ⟨_, k_362⟩) (by decide) rfl (Nat.le_of_ble_eq_true rfl) (by decide +kernel : decode cX4_init 20 = .ok (.invokespecial 11, 3)) (fun z hz => m_X0_init _ _ _ _ hz) rfl hf (fun z11 hf => ?_))
  refine q_pR hB cf4 1 (by decide) (own := "PulseRemote$Learner") rfl (Or.inl k_388) (Or.inr ⟨rfl, rfl, rfl, k_388⟩) (by decide +kernel) (by decide +kernel : decode cX4_init 23 = .ok (.putfield 18, 3)) hf (fun m12 hf => ?_)
  obtain rfl := Option.some.inj hf
  exact r_vret hB (by decide +kernel : decode cX4_init 26 = .ok (.return_, 1))
theorem m_X4_init (l : Launch) (D : va_G) (cy : Nat → ClassId) (b : Nat) {l0 : Nat} {s z : LMm} (hf : g_X4_init l0 s = some z) : Met l yX4_init (.code yX4_init cX4_init 1 none :: GW) rmX4_init (Pw D cy b [.ref (b + l0)] (mkM s)) (Qw D cy b none (mkM z)) rmX4_init.cells rmX4_init.slots (fun q => b ≤ q) :=
  met_of (by decide) (Nat.le_of_ble_eq_true rfl) (fun X hB _ => t_X4_init hB hf)
def g_X1_init (l0 : Nat) (s : LMm) : Option LMm :=
  (nO1 s 10).bind fun x4 =>
  (g_X10_init x4.1 x4.2).bind fun z6 =>
  (pR1 z6 1 l0 0 x4.1).bind fun m7 =>
  (nO1 m7 10).bind fun x9 =>
  (g_X10_init x9.1 x9.2).bind fun z11 =>
  (pR1 z11 1 l0 1 x9.1).bind fun m12 =>
  some m12
set_option maxHeartbeats 4000000 in
set_option maxRecDepth 100000 in
theorem t_X1_init {X : BX} {D : va_G} {cy : Nat → ClassId} {b : Nat} (hB : BB X D cy b yX1_init cX1_init 1 none rmX1_init) {l0 : Nat} {s z : LMm} (hf : g_X1_init l0 s = some z) : WW X D cy b none (mkM z) 1 4 404 0 [(0, .ref (b + l0))] [] (mkM s) := by
  unfold g_X1_init at hf
  refine r_aload_n hB 0 rfl (by decide +kernel : decode cX1_init 0 = .ok (.aload_n 0, 1)) rfl ?_
  refine r_objInit hB (own := "PulseRemote$Collision") rfl k_431 k_102 k_103 (by decide +kernel : decode cX1_init 1 = .ok (.invokespecial 3, 3)) (by decide) (Nat.le_of_ble_eq_true rfl) ?_
  refine r_aload_n hB 0 rfl (by decide +kernel : decode cX1_init 4 = .ok (.aload_n 0, 1)) rfl ?_
  refine WW.mono (kc := 3 + 1) (ks := 402 + 2) (Nat.le_of_ble_eq_true rfl) (Nat.le_of_ble_eq_true rfl) (q_new hB cf10 (by decide) (own := "PulseRemote$Collision") rfl k_432 k_194 k_81 (by decide +kernel : decode cX1_init 5 = .ok (.new 9, 3)) hf (fun x4 hf => ?_))
  refine r_dup hB (by decide +kernel : decode cX1_init 8 = .ok (.dup, 1)) rfl ?_
  refine WW.mono (kc := 2 + rmX10_init.cells) (ks := 202 + rmX10_init.slots) (Nat.le_of_ble_eq_true rfl) (Nat.le_of_ble_eq_true rfl) (q_cI hB [] [.ref (b + x4.1), .ref (b + l0)] (own := "PulseRemote$Collision") rfl cmX10_init hiX10_init rfl (Or.inr ⟨_, k_433⟩) (by decide) rfl (Nat.le_of_ble_eq_true rfl) (by decide +kernel : decode cX1_init 9 = .ok (.invokespecial 11, 3)) (fun z hz => m_X10_init _ _ _ _ hz) rfl hf (fun z6 hf => ?_))
  refine q_pR hB cf1 0 (by decide) (own := "PulseRemote$Collision") rfl (Or.inl k_434) (Or.inr ⟨rfl, rfl, rfl, k_434⟩) (by decide +kernel) (by decide +kernel : decode cX1_init 12 = .ok (.putfield 12, 3)) hf (fun m7 hf => ?_)
  refine r_aload_n hB 0 rfl (by decide +kernel : decode cX1_init 15 = .ok (.aload_n 0, 1)) rfl ?_
  refine WW.mono (kc := 1 + 1) (ks := 200 + 2) (Nat.le_of_ble_eq_true rfl) (Nat.le_of_ble_eq_true rfl) (q_new hB cf10 (by decide) (own := "PulseRemote$Collision") rfl k_432 k_194 k_81 (by decide +kernel : decode cX1_init 16 = .ok (.new 9, 3)) hf (fun x9 hf => ?_))
  refine r_dup hB (by decide +kernel : decode cX1_init 19 = .ok (.dup, 1)) rfl ?_
  refine WW.mono (kc := 0 + rmX10_init.cells) (ks := 0 + rmX10_init.slots) (Nat.le_of_ble_eq_true rfl) (Nat.le_of_ble_eq_true rfl) (q_cI hB [] [.ref (b + x9.1), .ref (b + l0)] (own := "PulseRemote$Collision") rfl cmX10_init hiX10_init rfl (Or.inr ⟨_, k_433⟩) (by decide) rfl (Nat.le_of_ble_eq_true rfl) (by decide +kernel : decode cX1_init 20 = .ok (.invokespecial 11, 3)) (fun z hz => m_X10_init _ _ _ _ hz) rfl hf (fun z11 hf => ?_))
  refine q_pR hB cf1 1 (by decide) (own := "PulseRemote$Collision") rfl (Or.inl k_435) (Or.inr ⟨rfl, rfl, rfl, k_435⟩) (by decide +kernel) (by decide +kernel : decode cX1_init 23 = .ok (.putfield 18, 3)) hf (fun m12 hf => ?_)
  obtain rfl := Option.some.inj hf
  exact r_vret hB (by decide +kernel : decode cX1_init 26 = .ok (.return_, 1))
theorem m_X1_init (l : Launch) (D : va_G) (cy : Nat → ClassId) (b : Nat) {l0 : Nat} {s z : LMm} (hf : g_X1_init l0 s = some z) : Met l yX1_init (.code yX1_init cX1_init 1 none :: GW) rmX1_init (Pw D cy b [.ref (b + l0)] (mkM s)) (Qw D cy b none (mkM z)) rmX1_init.cells rmX1_init.slots (fun q => b ≤ q) :=
  met_of (by decide) (Nat.le_of_ble_eq_true rfl) (fun X hB _ => t_X1_init hB hf)
def g_X11_init (l0 : Nat) (s : LMm) : Option LMm :=
  (nO1 s 7).bind fun x4 =>
  (g_X7_init x4.1 x4.2).bind fun z6 =>
  (pR1 z6 11 l0 0 x4.1).bind fun m7 =>
  (nA1 m7 19 6).bind fun x10 =>
  (pR1 x10.2 11 l0 1 x10.1).bind fun m11 =>
  (nO1 m11 9).bind fun x13 =>
  (g_X9_init x13.1 x13.2).bind fun z15 =>
  (pR1 z15 11 l0 3 x13.1).bind fun m16 =>
  (nO1 m16 8).bind fun x18 =>
  (g_X8_init x18.1 x18.2).bind fun z20 =>
  (pR1 z20 11 l0 4 x18.1).bind fun m21 =>
  (nO1 m21 10).bind fun x23 =>
  (g_X10_init x23.1 x23.2).bind fun z25 =>
  (pR1 z25 11 l0 5 x23.1).bind fun m26 =>
  (nA1 m26 20 12).bind fun x29 =>
  (pR1 x29.2 11 l0 6 x29.1).bind fun m30 =>
  (nO1 m30 3).bind fun x32 =>
  (g_X3_init x32.1 x32.2).bind fun z34 =>
  (pR1 z34 11 l0 7 x32.1).bind fun m35 =>
  (nO1 m35 2).bind fun x37 =>
  (g_X2_init x37.1 x37.2).bind fun z39 =>
  (pR1 z39 11 l0 8 x37.1).bind fun m40 =>
  (nO1 m40 5).bind fun x42 =>
  (g_X5_init x42.1 x42.2).bind fun z44 =>
  (pR1 z44 11 l0 9 x42.1).bind fun m45 =>
  (nO1 m45 4).bind fun x47 =>
  (g_X4_init x47.1 x47.2).bind fun z49 =>
  (pR1 z49 11 l0 10 x47.1).bind fun m50 =>
  (nO1 m50 1).bind fun x52 =>
  (g_X1_init x52.1 x52.2).bind fun z54 =>
  (pR1 z54 11 l0 11 x52.1).bind fun m55 =>
  (gR1 m55 11 l0 1).bind fun x62 =>
  (nO1 m55 7).bind fun x64 =>
  (g_X7_init x64.1 x64.2).bind fun z66 =>
  (sR1 z66 19 7 x62 0 x64.1).bind fun m67 =>
  (gR1 m67 11 l0 1).bind fun x74 =>
  (nO1 m67 7).bind fun x76 =>
  (g_X7_init x76.1 x76.2).bind fun z78 =>
  (sR1 z78 19 7 x74 1 x76.1).bind fun m79 =>
  (gR1 m79 11 l0 1).bind fun x86 =>
  (nO1 m79 7).bind fun x88 =>
  (g_X7_init x88.1 x88.2).bind fun z90 =>
  (sR1 z90 19 7 x86 2 x88.1).bind fun m91 =>
  (gR1 m91 11 l0 1).bind fun x98 =>
  (nO1 m91 7).bind fun x100 =>
  (g_X7_init x100.1 x100.2).bind fun z102 =>
  (sR1 z102 19 7 x98 3 x100.1).bind fun m103 =>
  (gR1 m103 11 l0 1).bind fun x110 =>
  (nO1 m103 7).bind fun x112 =>
  (g_X7_init x112.1 x112.2).bind fun z114 =>
  (sR1 z114 19 7 x110 4 x112.1).bind fun m115 =>
  (gR1 m115 11 l0 1).bind fun x122 =>
  (nO1 m115 7).bind fun x124 =>
  (g_X7_init x124.1 x124.2).bind fun z126 =>
  (sR1 z126 19 7 x122 5 x124.1).bind fun m127 =>
  (gR1 m127 11 l0 6).bind fun x139 =>
  (nO1 m127 10).bind fun x141 =>
  (g_X10_init x141.1 x141.2).bind fun z143 =>
  (sR1 z143 20 10 x139 0 x141.1).bind fun m144 =>
  (gR1 m144 11 l0 6).bind fun x151 =>
  (nO1 m144 10).bind fun x153 =>
  (g_X10_init x153.1 x153.2).bind fun z155 =>
  (sR1 z155 20 10 x151 1 x153.1).bind fun m156 =>
  (gR1 m156 11 l0 6).bind fun x163 =>
  (nO1 m156 10).bind fun x165 =>
  (g_X10_init x165.1 x165.2).bind fun z167 =>
  (sR1 z167 20 10 x163 2 x165.1).bind fun m168 =>
  (gR1 m168 11 l0 6).bind fun x175 =>
  (nO1 m168 10).bind fun x177 =>
  (g_X10_init x177.1 x177.2).bind fun z179 =>
  (sR1 z179 20 10 x175 3 x177.1).bind fun m180 =>
  (gR1 m180 11 l0 6).bind fun x187 =>
  (nO1 m180 10).bind fun x189 =>
  (g_X10_init x189.1 x189.2).bind fun z191 =>
  (sR1 z191 20 10 x187 4 x189.1).bind fun m192 =>
  (gR1 m192 11 l0 6).bind fun x199 =>
  (nO1 m192 10).bind fun x201 =>
  (g_X10_init x201.1 x201.2).bind fun z203 =>
  (sR1 z203 20 10 x199 5 x201.1).bind fun m204 =>
  (gR1 m204 11 l0 6).bind fun x211 =>
  (nO1 m204 10).bind fun x213 =>
  (g_X10_init x213.1 x213.2).bind fun z215 =>
  (sR1 z215 20 10 x211 6 x213.1).bind fun m216 =>
  (gR1 m216 11 l0 6).bind fun x223 =>
  (nO1 m216 10).bind fun x225 =>
  (g_X10_init x225.1 x225.2).bind fun z227 =>
  (sR1 z227 20 10 x223 7 x225.1).bind fun m228 =>
  (gR1 m228 11 l0 6).bind fun x235 =>
  (nO1 m228 10).bind fun x237 =>
  (g_X10_init x237.1 x237.2).bind fun z239 =>
  (sR1 z239 20 10 x235 8 x237.1).bind fun m240 =>
  (gR1 m240 11 l0 6).bind fun x247 =>
  (nO1 m240 10).bind fun x249 =>
  (g_X10_init x249.1 x249.2).bind fun z251 =>
  (sR1 z251 20 10 x247 9 x249.1).bind fun m252 =>
  (gR1 m252 11 l0 6).bind fun x259 =>
  (nO1 m252 10).bind fun x261 =>
  (g_X10_init x261.1 x261.2).bind fun z263 =>
  (sR1 z263 20 10 x259 10 x261.1).bind fun m264 =>
  (gR1 m264 11 l0 6).bind fun x271 =>
  (nO1 m264 10).bind fun x273 =>
  (g_X10_init x273.1 x273.2).bind fun z275 =>
  (sR1 z275 20 10 x271 11 x273.1).bind fun m276 =>
  some m276
set_option maxHeartbeats 4000000 in
set_option maxRecDepth 100000 in
theorem t_X11_init {X : BX} {D : va_G} {cy : Nat → ClassId} {b : Nat} (hB : BB X D cy b yX11_init cX11_init 2 none rmX11_init) {l0 : Nat} {s z : LMm} (hf : g_X11_init l0 s = some z) : WW X D cy b none (mkM z) 2 188 9215 0 [(0, .ref (b + l0))] [] (mkM s) := by
  unfold g_X11_init at hf
  refine r_aload_n hB 0 rfl (by decide +kernel : decode cX11_init 0 = .ok (.aload_n 0, 1)) rfl ?_
  refine r_objInit hB (own := "PulseRemote") rfl k_101 k_102 k_103 (by decide +kernel : decode cX11_init 1 = .ok (.invokespecial 3, 3)) (by decide) (Nat.le_of_ble_eq_true rfl) ?_
  refine r_aload_n hB 0 rfl (by decide +kernel : decode cX11_init 4 = .ok (.aload_n 0, 1)) rfl ?_
  refine WW.mono (kc := 187 + 1) (ks := 9210 + 5) (Nat.le_of_ble_eq_true rfl) (Nat.le_of_ble_eq_true rfl) (q_new hB cf7 (by decide) (own := "PulseRemote") rfl k_104 k_105 k_78 (by decide +kernel : decode cX11_init 5 = .ok (.new 9, 3)) hf (fun x4 hf => ?_))
  refine r_dup hB (by decide +kernel : decode cX11_init 8 = .ok (.dup, 1)) rfl ?_
  refine WW.mono (kc := 170 + rmX7_init.cells) (ks := 8512 + rmX7_init.slots) (Nat.le_of_ble_eq_true rfl) (Nat.le_of_ble_eq_true rfl) (q_cI hB [] [.ref (b + x4.1), .ref (b + l0)] (own := "PulseRemote") rfl cmX7_init hiX7_init rfl (Or.inl k_106) (by decide) rfl (Nat.le_of_ble_eq_true rfl) (by decide +kernel : decode cX11_init 9 = .ok (.invokespecial 11, 3)) (fun z hz => m_X7_init _ _ _ _ hz) rfl hf (fun z6 hf => ?_))
  refine q_pR hB cf11 0 (by decide) (own := "PulseRemote") rfl (Or.inl k_465) (Or.inl rfl) (by decide +kernel) (by decide +kernel : decode cX11_init 12 = .ok (.putfield 12, 3)) hf (fun m7 hf => ?_)
  refine r_aload_n hB 0 rfl (by decide +kernel : decode cX11_init 15 = .ok (.aload_n 0, 1)) rfl ?_
  refine r_bipush hB (v := 6) (by decide +kernel : decode cX11_init 16 = .ok (.bipush 6, 2)) (by decide +kernel) ?_
  refine WW.mono (kc := 169 + 1) (ks := 8506 + 6) (Nat.le_of_ble_eq_true rfl) (Nat.le_of_ble_eq_true rfl) (q_newR hB (t := 19) (C := RX7) (Or.inr (Or.inl ⟨rfl, rfl⟩)) (own := "PulseRemote") rfl k_104 (by decide +kernel) (by decide +kernel) (Nat.le_of_ble_eq_true rfl) (by decide +kernel : decode cX11_init 18 = .ok (.anewarray 9, 3)) hf (fun x10 hf => ?_))
  refine q_pR hB cf11 1 (by decide) (own := "PulseRemote") rfl (Or.inl k_466) (Or.inr ⟨rfl, rfl, rfl, k_466⟩) (by decide +kernel) (by decide +kernel : decode cX11_init 21 = .ok (.putfield 16, 3)) hf (fun m11 hf => ?_)
  refine r_aload_n hB 0 rfl (by decide +kernel : decode cX11_init 24 = .ok (.aload_n 0, 1)) rfl ?_
  refine WW.mono (kc := 168 + 1) (ks := 8501 + 5) (Nat.le_of_ble_eq_true rfl) (Nat.le_of_ble_eq_true rfl) (q_new hB cf9 (by decide) (own := "PulseRemote") rfl k_235 k_236 k_82 (by decide +kernel : decode cX11_init 25 = .ok (.new 20, 3)) hf (fun x13 hf => ?_))
  refine r_dup hB (by decide +kernel : decode cX11_init 28 = .ok (.dup, 1)) rfl ?_
  refine WW.mono (kc := 167 + rmX9_init.cells) (ks := 8341 + rmX9_init.slots) (Nat.le_of_ble_eq_true rfl) (Nat.le_of_ble_eq_true rfl) (q_cI hB [] [.ref (b + x13.1), .ref (b + l0)] (own := "PulseRemote") rfl cmX9_init hiX9_init rfl (Or.inr ⟨_, k_237⟩) (by decide) rfl (Nat.le_of_ble_eq_true rfl) (by decide +kernel : decode cX11_init 29 = .ok (.invokespecial 22, 3)) (fun z hz => m_X9_init _ _ _ _ hz) rfl hf (fun z15 hf => ?_))
  refine q_pR hB cf11 3 (by decide) (own := "PulseRemote") rfl (Or.inl k_468) (Or.inr ⟨rfl, rfl, rfl, k_468⟩) (by decide +kernel) (by decide +kernel : decode cX11_init 32 = .ok (.putfield 23, 3)) hf (fun m16 hf => ?_)
  refine r_aload_n hB 0 rfl (by decide +kernel : decode cX11_init 35 = .ok (.aload_n 0, 1)) rfl ?_
  refine WW.mono (kc := 166 + 1) (ks := 8336 + 5) (Nat.le_of_ble_eq_true rfl) (Nat.le_of_ble_eq_true rfl) (q_new hB cf8 (by decide) (own := "PulseRemote") rfl k_260 k_111 k_79 (by decide +kernel : decode cX11_init 36 = .ok (.new 27, 3)) hf (fun x18 hf => ?_))
  refine r_dup hB (by decide +kernel : decode cX11_init 39 = .ok (.dup, 1)) rfl ?_
  refine WW.mono (kc := 157 + rmX8_init.cells) (ks := 8252 + rmX8_init.slots) (Nat.le_of_ble_eq_true rfl) (Nat.le_of_ble_eq_true rfl) (q_cI hB [] [.ref (b + x18.1), .ref (b + l0)] (own := "PulseRemote") rfl cmX8_init hiX8_init rfl (Or.inl k_261) (by decide) rfl (Nat.le_of_ble_eq_true rfl) (by decide +kernel : decode cX11_init 40 = .ok (.invokespecial 29, 3)) (fun z hz => m_X8_init _ _ _ _ hz) rfl hf (fun z20 hf => ?_))
  refine q_pR hB cf11 4 (by decide) (own := "PulseRemote") rfl (Or.inl k_469) (Or.inr ⟨rfl, rfl, rfl, k_469⟩) (by decide +kernel) (by decide +kernel : decode cX11_init 43 = .ok (.putfield 30, 3)) hf (fun m21 hf => ?_)
  refine r_aload_n hB 0 rfl (by decide +kernel : decode cX11_init 46 = .ok (.aload_n 0, 1)) rfl ?_
  refine WW.mono (kc := 156 + 1) (ks := 8250 + 2) (Nat.le_of_ble_eq_true rfl) (Nat.le_of_ble_eq_true rfl) (q_new hB cf10 (by decide) (own := "PulseRemote") rfl k_262 k_194 k_81 (by decide +kernel : decode cX11_init 47 = .ok (.new 34, 3)) hf (fun x23 hf => ?_))
  refine r_dup hB (by decide +kernel : decode cX11_init 50 = .ok (.dup, 1)) rfl ?_
  refine WW.mono (kc := 155 + rmX10_init.cells) (ks := 8050 + rmX10_init.slots) (Nat.le_of_ble_eq_true rfl) (Nat.le_of_ble_eq_true rfl) (q_cI hB [] [.ref (b + x23.1), .ref (b + l0)] (own := "PulseRemote") rfl cmX10_init hiX10_init rfl (Or.inr ⟨_, k_263⟩) (by decide) rfl (Nat.le_of_ble_eq_true rfl) (by decide +kernel : decode cX11_init 51 = .ok (.invokespecial 36, 3)) (fun z hz => m_X10_init _ _ _ _ hz) rfl hf (fun z25 hf => ?_))
  refine q_pR hB cf11 5 (by decide) (own := "PulseRemote") rfl (Or.inl k_470) (Or.inr ⟨rfl, rfl, rfl, k_470⟩) (by decide +kernel) (by decide +kernel : decode cX11_init 54 = .ok (.putfield 37, 3)) hf (fun m26 hf => ?_)
  refine r_aload_n hB 0 rfl (by decide +kernel : decode cX11_init 57 = .ok (.aload_n 0, 1)) rfl ?_
  refine r_bipush hB (v := 12) (by decide +kernel : decode cX11_init 58 = .ok (.bipush 12, 2)) (by decide +kernel) ?_
  refine WW.mono (kc := 154 + 1) (ks := 8038 + 12) (Nat.le_of_ble_eq_true rfl) (Nat.le_of_ble_eq_true rfl) (q_newR hB (t := 20) (C := RX10) (Or.inr (Or.inr ⟨rfl, rfl⟩)) (own := "PulseRemote") rfl k_262 (by decide +kernel) (by decide +kernel) (Nat.le_of_ble_eq_true rfl) (by decide +kernel : decode cX11_init 60 = .ok (.anewarray 34, 3)) hf (fun x29 hf => ?_))
  refine q_pR hB cf11 6 (by decide) (own := "PulseRemote") rfl (Or.inl k_471) (Or.inr ⟨rfl, rfl, rfl, k_471⟩) (by decide +kernel) (by decide +kernel : decode cX11_init 63 = .ok (.putfield 41, 3)) hf (fun m30 hf => ?_)
  refine r_aload_n hB 0 rfl (by decide +kernel : decode cX11_init 66 = .ok (.aload_n 0, 1)) rfl ?_
  refine WW.mono (kc := 153 + 1) (ks := 8034 + 4) (Nat.le_of_ble_eq_true rfl) (Nat.le_of_ble_eq_true rfl) (q_new hB cf3 (by decide) (own := "PulseRemote") rfl k_264 k_265 k_83 (by decide +kernel : decode cX11_init 67 = .ok (.new 45, 3)) hf (fun x32 hf => ?_))
  refine r_dup hB (by decide +kernel : decode cX11_init 70 = .ok (.dup, 1)) rfl ?_
  refine WW.mono (kc := 149 + rmX3_init.cells) (ks := 7632 + rmX3_init.slots) (Nat.le_of_ble_eq_true rfl) (Nat.le_of_ble_eq_true rfl) (q_cI hB [] [.ref (b + x32.1), .ref (b + l0)] (own := "PulseRemote") rfl cmX3_init hiX3_init rfl (Or.inr ⟨_, k_266⟩) (by decide) rfl (Nat.le_of_ble_eq_true rfl) (by decide +kernel : decode cX11_init 71 = .ok (.invokespecial 47, 3)) (fun z hz => m_X3_init _ _ _ _ hz) rfl hf (fun z34 hf => ?_))
  refine q_pR hB cf11 7 (by decide) (own := "PulseRemote") rfl (Or.inl k_472) (Or.inr ⟨rfl, rfl, rfl, k_472⟩) (by decide +kernel) (by decide +kernel : decode cX11_init 74 = .ok (.putfield 48, 3)) hf (fun m35 hf => ?_)
  refine r_aload_n hB 0 rfl (by decide +kernel : decode cX11_init 77 = .ok (.aload_n 0, 1)) rfl ?_
  refine WW.mono (kc := 148 + 1) (ks := 7626 + 6) (Nat.le_of_ble_eq_true rfl) (Nat.le_of_ble_eq_true rfl) (q_new hB cf2 (by decide) (own := "PulseRemote") rfl k_288 k_289 k_84 (by decide +kernel : decode cX11_init 78 = .ok (.new 52, 3)) hf (fun x37 hf => ?_))
  refine r_dup hB (by decide +kernel : decode cX11_init 81 = .ok (.dup, 1)) rfl ?_
  refine WW.mono (kc := 146 + rmX2_init.cells) (ks := 7574 + rmX2_init.slots) (Nat.le_of_ble_eq_true rfl) (Nat.le_of_ble_eq_true rfl) (q_cI hB [] [.ref (b + x37.1), .ref (b + l0)] (own := "PulseRemote") rfl cmX2_init hiX2_init rfl (Or.inr ⟨_, k_290⟩) (by decide) rfl (Nat.le_of_ble_eq_true rfl) (by decide +kernel : decode cX11_init 82 = .ok (.invokespecial 54, 3)) (fun z hz => m_X2_init _ _ _ _ hz) rfl hf (fun z39 hf => ?_))
  refine q_pR hB cf11 8 (by decide) (own := "PulseRemote") rfl (Or.inl k_473) (Or.inr ⟨rfl, rfl, rfl, k_473⟩) (by decide +kernel) (by decide +kernel : decode cX11_init 85 = .ok (.putfield 55, 3)) hf (fun m40 hf => ?_)
  refine r_aload_n hB 0 rfl (by decide +kernel : decode cX11_init 88 = .ok (.aload_n 0, 1)) rfl ?_
  refine WW.mono (kc := 145 + 1) (ks := 7566 + 8) (Nat.le_of_ble_eq_true rfl) (Nat.le_of_ble_eq_true rfl) (q_new hB cf5 (by decide) (own := "PulseRemote") rfl k_318 k_319 k_85 (by decide +kernel : decode cX11_init 89 = .ok (.new 59, 3)) hf (fun x42 hf => ?_))
  refine r_dup hB (by decide +kernel : decode cX11_init 92 = .ok (.dup, 1)) rfl ?_
  refine WW.mono (kc := 142 + rmX5_init.cells) (ks := 7476 + rmX5_init.slots) (Nat.le_of_ble_eq_true rfl) (Nat.le_of_ble_eq_true rfl) (q_cI hB [] [.ref (b + x42.1), .ref (b + l0)] (own := "PulseRemote") rfl cmX5_init hiX5_init rfl (Or.inr ⟨_, k_320⟩) (by decide) rfl (Nat.le_of_ble_eq_true rfl) (by decide +kernel : decode cX11_init 93 = .ok (.invokespecial 61, 3)) (fun z hz => m_X5_init _ _ _ _ hz) rfl hf (fun z44 hf => ?_))
  refine q_pR hB cf11 9 (by decide) (own := "PulseRemote") rfl (Or.inl k_474) (Or.inr ⟨rfl, rfl, rfl, k_474⟩) (by decide +kernel) (by decide +kernel : decode cX11_init 96 = .ok (.putfield 62, 3)) hf (fun m45 hf => ?_)
  refine r_aload_n hB 0 rfl (by decide +kernel : decode cX11_init 99 = .ok (.aload_n 0, 1)) rfl ?_
  refine WW.mono (kc := 141 + 1) (ks := 7466 + 10) (Nat.le_of_ble_eq_true rfl) (Nat.le_of_ble_eq_true rfl) (q_new hB cf4 (by decide) (own := "PulseRemote") rfl k_354 k_355 k_86 (by decide +kernel : decode cX11_init 100 = .ok (.new 66, 3)) hf (fun x47 hf => ?_))
  refine r_dup hB (by decide +kernel : decode cX11_init 103 = .ok (.dup, 1)) rfl ?_
  refine WW.mono (kc := 137 + rmX4_init.cells) (ks := 7056 + rmX4_init.slots) (Nat.le_of_ble_eq_true rfl) (Nat.le_of_ble_eq_true rfl) (q_cI hB [] [.ref (b + x47.1), .ref (b + l0)] (own := "PulseRemote") rfl cmX4_init hiX4_init rfl (Or.inr ⟨_, k_356⟩) (by decide) rfl (Nat.le_of_ble_eq_true rfl) (by decide +kernel : decode cX11_init 104 = .ok (.invokespecial 68, 3)) (fun z hz => m_X4_init _ _ _ _ hz) rfl hf (fun z49 hf => ?_))
  refine q_pR hB cf11 10 (by decide) (own := "PulseRemote") rfl (Or.inl k_475) (Or.inr ⟨rfl, rfl, rfl, k_475⟩) (by decide +kernel) (by decide +kernel : decode cX11_init 107 = .ok (.putfield 69, 3)) hf (fun m50 hf => ?_)
  refine r_aload_n hB 0 rfl (by decide +kernel : decode cX11_init 110 = .ok (.aload_n 0, 1)) rfl ?_
  refine WW.mono (kc := 136 + 1) (ks := 7046 + 10) (Nat.le_of_ble_eq_true rfl) (Nat.le_of_ble_eq_true rfl) (q_new hB cf1 (by decide) (own := "PulseRemote") rfl k_426 k_427 k_88 (by decide +kernel : decode cX11_init 111 = .ok (.new 73, 3)) hf (fun x52 hf => ?_))
  refine r_dup hB (by decide +kernel : decode cX11_init 114 = .ok (.dup, 1)) rfl ?_
  refine WW.mono (kc := 132 + rmX1_init.cells) (ks := 6642 + rmX1_init.slots) (Nat.le_of_ble_eq_true rfl) (Nat.le_of_ble_eq_true rfl) (q_cI hB [] [.ref (b + x52.1), .ref (b + l0)] (own := "PulseRemote") rfl cmX1_init hiX1_init rfl (Or.inr ⟨_, k_428⟩) (by decide) rfl (Nat.le_of_ble_eq_true rfl) (by decide +kernel : decode cX11_init 115 = .ok (.invokespecial 75, 3)) (fun z hz => m_X1_init _ _ _ _ hz) rfl hf (fun z54 hf => ?_))
  refine q_pR hB cf11 11 (by decide) (own := "PulseRemote") rfl (Or.inl k_476) (Or.inr ⟨rfl, rfl, rfl, k_476⟩) (by decide +kernel) (by decide +kernel : decode cX11_init 118 = .ok (.putfield 76, 3)) hf (fun m55 hf => ?_)
  refine r_iconst hB (v := 0) (by decide +kernel : decode cX11_init 121 = .ok (.iconst 0, 1)) (by decide +kernel) ?_
  refine r_istore_n hB (by decide +kernel : decode cX11_init 122 = .ok (.istore_n 1, 1)) rfl (by decide) rfl ?_
  refine ww_lv (lv' := [(1, .int 0), (0, .ref (b + l0))]) rfl ?_
  refine r_iload_n hB 0 rfl (by decide +kernel : decode cX11_init 123 = .ok (.iload_n 1, 1)) rfl ?_
  refine r_bipush hB (v := 6) (by decide +kernel : decode cX11_init 124 = .ok (.bipush 6, 2)) (by decide +kernel) ?_
  refine r_icmp_ge hB (tgt := 148) (by decide +kernel : decode cX11_init 126 = .ok (.if_icmp .ge 22, 3)) (by decide) (show (if (6 : Int32) ≤ 0 then (none : Option Unit) else some ()) = some () by decide +kernel) (fun _ h => nomatch h) (fun _ _ => ?_)
  refine r_aload_n hB 1 rfl (by decide +kernel : decode cX11_init 129 = .ok (.aload_n 0, 1)) rfl ?_
  refine q_gR hB cf11 1 (by decide) (own := "PulseRemote") rfl (Or.inl k_466) (by decide +kernel) (by decide +kernel : decode cX11_init 130 = .ok (.getfield 16, 3)) hf (fun x62 hf => ?_)
  refine r_iload_n hB 0 rfl (by decide +kernel : decode cX11_init 133 = .ok (.iload_n 1, 1)) rfl ?_
  refine WW.mono (kc := 131 + 1) (ks := 6637 + 5) (Nat.le_of_ble_eq_true rfl) (Nat.le_of_ble_eq_true rfl) (q_new hB cf7 (by decide) (own := "PulseRemote") rfl k_104 k_105 k_78 (by decide +kernel : decode cX11_init 134 = .ok (.new 9, 3)) hf (fun x64 hf => ?_))
  refine r_dup hB (by decide +kernel : decode cX11_init 137 = .ok (.dup, 1)) rfl ?_
  refine WW.mono (kc := 114 + rmX7_init.cells) (ks := 5939 + rmX7_init.slots) (Nat.le_of_ble_eq_true rfl) (Nat.le_of_ble_eq_true rfl) (q_cI hB [] [.ref (b + x64.1), .int 0, .ref (b + x62)] (own := "PulseRemote") rfl cmX7_init hiX7_init rfl (Or.inl k_106) (by decide) rfl (Nat.le_of_ble_eq_true rfl) (by decide +kernel : decode cX11_init 138 = .ok (.invokespecial 11, 3)) (fun z hz => m_X7_init _ _ _ _ hz) rfl hf (fun z66 hf => ?_))
  refine q_aast hB (t := 19) (C := RX7) cf7 (Or.inr (Or.inl ⟨rfl, rfl⟩)) (by decide +kernel : decode cX11_init 141 = .ok (.aastore, 1)) hf (fun m67 hf => ?_)
  refine r_iinc hB (v := 1) 0 rfl (by decide +kernel : decode cX11_init 142 = .ok (.iinc 1 1, 3)) (by decide +kernel) (by decide) rfl ?_
  refine ww_lv (lv' := [(1, .int 1), (0, .ref (b + l0))]) rfl ?_
  refine r_goto hB (tgt := 123) (by decide +kernel : decode cX11_init 145 = .ok (.goto (-22), 3)) (by decide) ?_
  refine r_iload_n hB 0 rfl (by decide +kernel : decode cX11_init 123 = .ok (.iload_n 1, 1)) rfl ?_
  refine r_bipush hB (v := 6) (by decide +kernel : decode cX11_init 124 = .ok (.bipush 6, 2)) (by decide +kernel) ?_
  refine r_icmp_ge hB (tgt := 148) (by decide +kernel : decode cX11_init 126 = .ok (.if_icmp .ge 22, 3)) (by decide) (show (if (6 : Int32) ≤ 1 then (none : Option Unit) else some ()) = some () by decide +kernel) (fun _ h => nomatch h) (fun _ _ => ?_)
  refine r_aload_n hB 1 rfl (by decide +kernel : decode cX11_init 129 = .ok (.aload_n 0, 1)) rfl ?_
  refine q_gR hB cf11 1 (by decide) (own := "PulseRemote") rfl (Or.inl k_466) (by decide +kernel) (by decide +kernel : decode cX11_init 130 = .ok (.getfield 16, 3)) hf (fun x74 hf => ?_)
  refine r_iload_n hB 0 rfl (by decide +kernel : decode cX11_init 133 = .ok (.iload_n 1, 1)) rfl ?_
  refine WW.mono (kc := 113 + 1) (ks := 5934 + 5) (Nat.le_of_ble_eq_true rfl) (Nat.le_of_ble_eq_true rfl) (q_new hB cf7 (by decide) (own := "PulseRemote") rfl k_104 k_105 k_78 (by decide +kernel : decode cX11_init 134 = .ok (.new 9, 3)) hf (fun x76 hf => ?_))
  refine r_dup hB (by decide +kernel : decode cX11_init 137 = .ok (.dup, 1)) rfl ?_
  refine WW.mono (kc := 96 + rmX7_init.cells) (ks := 5236 + rmX7_init.slots) (Nat.le_of_ble_eq_true rfl) (Nat.le_of_ble_eq_true rfl) (q_cI hB [] [.ref (b + x76.1), .int 1, .ref (b + x74)] (own := "PulseRemote") rfl cmX7_init hiX7_init rfl (Or.inl k_106) (by decide) rfl (Nat.le_of_ble_eq_true rfl) (by decide +kernel : decode cX11_init 138 = .ok (.invokespecial 11, 3)) (fun z hz => m_X7_init _ _ _ _ hz) rfl hf (fun z78 hf => ?_))
  refine q_aast hB (t := 19) (C := RX7) cf7 (Or.inr (Or.inl ⟨rfl, rfl⟩)) (by decide +kernel : decode cX11_init 141 = .ok (.aastore, 1)) hf (fun m79 hf => ?_)
  refine r_iinc hB (v := 2) 0 rfl (by decide +kernel : decode cX11_init 142 = .ok (.iinc 1 1, 3)) (by decide +kernel) (by decide) rfl ?_
  refine ww_lv (lv' := [(1, .int 2), (0, .ref (b + l0))]) rfl ?_
  refine r_goto hB (tgt := 123) (by decide +kernel : decode cX11_init 145 = .ok (.goto (-22), 3)) (by decide) ?_
  refine r_iload_n hB 0 rfl (by decide +kernel : decode cX11_init 123 = .ok (.iload_n 1, 1)) rfl ?_
  refine r_bipush hB (v := 6) (by decide +kernel : decode cX11_init 124 = .ok (.bipush 6, 2)) (by decide +kernel) ?_
  refine r_icmp_ge hB (tgt := 148) (by decide +kernel : decode cX11_init 126 = .ok (.if_icmp .ge 22, 3)) (by decide) (show (if (6 : Int32) ≤ 2 then (none : Option Unit) else some ()) = some () by decide +kernel) (fun _ h => nomatch h) (fun _ _ => ?_)
  refine r_aload_n hB 1 rfl (by decide +kernel : decode cX11_init 129 = .ok (.aload_n 0, 1)) rfl ?_
  refine q_gR hB cf11 1 (by decide) (own := "PulseRemote") rfl (Or.inl k_466) (by decide +kernel) (by decide +kernel : decode cX11_init 130 = .ok (.getfield 16, 3)) hf (fun x86 hf => ?_)
  refine r_iload_n hB 0 rfl (by decide +kernel : decode cX11_init 133 = .ok (.iload_n 1, 1)) rfl ?_
  refine WW.mono (kc := 95 + 1) (ks := 5231 + 5) (Nat.le_of_ble_eq_true rfl) (Nat.le_of_ble_eq_true rfl) (q_new hB cf7 (by decide) (own := "PulseRemote") rfl k_104 k_105 k_78 (by decide +kernel : decode cX11_init 134 = .ok (.new 9, 3)) hf (fun x88 hf => ?_))
  refine r_dup hB (by decide +kernel : decode cX11_init 137 = .ok (.dup, 1)) rfl ?_
  refine WW.mono (kc := 78 + rmX7_init.cells) (ks := 4533 + rmX7_init.slots) (Nat.le_of_ble_eq_true rfl) (Nat.le_of_ble_eq_true rfl) (q_cI hB [] [.ref (b + x88.1), .int 2, .ref (b + x86)] (own := "PulseRemote") rfl cmX7_init hiX7_init rfl (Or.inl k_106) (by decide) rfl (Nat.le_of_ble_eq_true rfl) (by decide +kernel : decode cX11_init 138 = .ok (.invokespecial 11, 3)) (fun z hz => m_X7_init _ _ _ _ hz) rfl hf (fun z90 hf => ?_))
  refine q_aast hB (t := 19) (C := RX7) cf7 (Or.inr (Or.inl ⟨rfl, rfl⟩)) (by decide +kernel : decode cX11_init 141 = .ok (.aastore, 1)) hf (fun m91 hf => ?_)
  refine r_iinc hB (v := 3) 0 rfl (by decide +kernel : decode cX11_init 142 = .ok (.iinc 1 1, 3)) (by decide +kernel) (by decide) rfl ?_
  refine ww_lv (lv' := [(1, .int 3), (0, .ref (b + l0))]) rfl ?_
  refine r_goto hB (tgt := 123) (by decide +kernel : decode cX11_init 145 = .ok (.goto (-22), 3)) (by decide) ?_
  refine r_iload_n hB 0 rfl (by decide +kernel : decode cX11_init 123 = .ok (.iload_n 1, 1)) rfl ?_
  refine r_bipush hB (v := 6) (by decide +kernel : decode cX11_init 124 = .ok (.bipush 6, 2)) (by decide +kernel) ?_
  refine r_icmp_ge hB (tgt := 148) (by decide +kernel : decode cX11_init 126 = .ok (.if_icmp .ge 22, 3)) (by decide) (show (if (6 : Int32) ≤ 3 then (none : Option Unit) else some ()) = some () by decide +kernel) (fun _ h => nomatch h) (fun _ _ => ?_)
  refine r_aload_n hB 1 rfl (by decide +kernel : decode cX11_init 129 = .ok (.aload_n 0, 1)) rfl ?_
  refine q_gR hB cf11 1 (by decide) (own := "PulseRemote") rfl (Or.inl k_466) (by decide +kernel) (by decide +kernel : decode cX11_init 130 = .ok (.getfield 16, 3)) hf (fun x98 hf => ?_)
  refine r_iload_n hB 0 rfl (by decide +kernel : decode cX11_init 133 = .ok (.iload_n 1, 1)) rfl ?_
  refine WW.mono (kc := 77 + 1) (ks := 4528 + 5) (Nat.le_of_ble_eq_true rfl) (Nat.le_of_ble_eq_true rfl) (q_new hB cf7 (by decide) (own := "PulseRemote") rfl k_104 k_105 k_78 (by decide +kernel : decode cX11_init 134 = .ok (.new 9, 3)) hf (fun x100 hf => ?_))
  refine r_dup hB (by decide +kernel : decode cX11_init 137 = .ok (.dup, 1)) rfl ?_
  refine WW.mono (kc := 60 + rmX7_init.cells) (ks := 3830 + rmX7_init.slots) (Nat.le_of_ble_eq_true rfl) (Nat.le_of_ble_eq_true rfl) (q_cI hB [] [.ref (b + x100.1), .int 3, .ref (b + x98)] (own := "PulseRemote") rfl cmX7_init hiX7_init rfl (Or.inl k_106) (by decide) rfl (Nat.le_of_ble_eq_true rfl) (by decide +kernel : decode cX11_init 138 = .ok (.invokespecial 11, 3)) (fun z hz => m_X7_init _ _ _ _ hz) rfl hf (fun z102 hf => ?_))
  refine q_aast hB (t := 19) (C := RX7) cf7 (Or.inr (Or.inl ⟨rfl, rfl⟩)) (by decide +kernel : decode cX11_init 141 = .ok (.aastore, 1)) hf (fun m103 hf => ?_)
  refine r_iinc hB (v := 4) 0 rfl (by decide +kernel : decode cX11_init 142 = .ok (.iinc 1 1, 3)) (by decide +kernel) (by decide) rfl ?_
  refine ww_lv (lv' := [(1, .int 4), (0, .ref (b + l0))]) rfl ?_
  refine r_goto hB (tgt := 123) (by decide +kernel : decode cX11_init 145 = .ok (.goto (-22), 3)) (by decide) ?_
  refine r_iload_n hB 0 rfl (by decide +kernel : decode cX11_init 123 = .ok (.iload_n 1, 1)) rfl ?_
  refine r_bipush hB (v := 6) (by decide +kernel : decode cX11_init 124 = .ok (.bipush 6, 2)) (by decide +kernel) ?_
  refine r_icmp_ge hB (tgt := 148) (by decide +kernel : decode cX11_init 126 = .ok (.if_icmp .ge 22, 3)) (by decide) (show (if (6 : Int32) ≤ 4 then (none : Option Unit) else some ()) = some () by decide +kernel) (fun _ h => nomatch h) (fun _ _ => ?_)
  refine r_aload_n hB 1 rfl (by decide +kernel : decode cX11_init 129 = .ok (.aload_n 0, 1)) rfl ?_
  refine q_gR hB cf11 1 (by decide) (own := "PulseRemote") rfl (Or.inl k_466) (by decide +kernel) (by decide +kernel : decode cX11_init 130 = .ok (.getfield 16, 3)) hf (fun x110 hf => ?_)
  refine r_iload_n hB 0 rfl (by decide +kernel : decode cX11_init 133 = .ok (.iload_n 1, 1)) rfl ?_
  refine WW.mono (kc := 59 + 1) (ks := 3825 + 5) (Nat.le_of_ble_eq_true rfl) (Nat.le_of_ble_eq_true rfl) (q_new hB cf7 (by decide) (own := "PulseRemote") rfl k_104 k_105 k_78 (by decide +kernel : decode cX11_init 134 = .ok (.new 9, 3)) hf (fun x112 hf => ?_))
  refine r_dup hB (by decide +kernel : decode cX11_init 137 = .ok (.dup, 1)) rfl ?_
  refine WW.mono (kc := 42 + rmX7_init.cells) (ks := 3127 + rmX7_init.slots) (Nat.le_of_ble_eq_true rfl) (Nat.le_of_ble_eq_true rfl) (q_cI hB [] [.ref (b + x112.1), .int 4, .ref (b + x110)] (own := "PulseRemote") rfl cmX7_init hiX7_init rfl (Or.inl k_106) (by decide) rfl (Nat.le_of_ble_eq_true rfl) (by decide +kernel : decode cX11_init 138 = .ok (.invokespecial 11, 3)) (fun z hz => m_X7_init _ _ _ _ hz) rfl hf (fun z114 hf => ?_))
  refine q_aast hB (t := 19) (C := RX7) cf7 (Or.inr (Or.inl ⟨rfl, rfl⟩)) (by decide +kernel : decode cX11_init 141 = .ok (.aastore, 1)) hf (fun m115 hf => ?_)
  refine r_iinc hB (v := 5) 0 rfl (by decide +kernel : decode cX11_init 142 = .ok (.iinc 1 1, 3)) (by decide +kernel) (by decide) rfl ?_
  refine ww_lv (lv' := [(1, .int 5), (0, .ref (b + l0))]) rfl ?_
  refine r_goto hB (tgt := 123) (by decide +kernel : decode cX11_init 145 = .ok (.goto (-22), 3)) (by decide) ?_
  refine r_iload_n hB 0 rfl (by decide +kernel : decode cX11_init 123 = .ok (.iload_n 1, 1)) rfl ?_
  refine r_bipush hB (v := 6) (by decide +kernel : decode cX11_init 124 = .ok (.bipush 6, 2)) (by decide +kernel) ?_
  refine r_icmp_ge hB (tgt := 148) (by decide +kernel : decode cX11_init 126 = .ok (.if_icmp .ge 22, 3)) (by decide) (show (if (6 : Int32) ≤ 5 then (none : Option Unit) else some ()) = some () by decide +kernel) (fun _ h => nomatch h) (fun _ _ => ?_)
  refine r_aload_n hB 1 rfl (by decide +kernel : decode cX11_init 129 = .ok (.aload_n 0, 1)) rfl ?_
  refine q_gR hB cf11 1 (by decide) (own := "PulseRemote") rfl (Or.inl k_466) (by decide +kernel) (by decide +kernel : decode cX11_init 130 = .ok (.getfield 16, 3)) hf (fun x122 hf => ?_)
  refine r_iload_n hB 0 rfl (by decide +kernel : decode cX11_init 133 = .ok (.iload_n 1, 1)) rfl ?_
  refine WW.mono (kc := 41 + 1) (ks := 3122 + 5) (Nat.le_of_ble_eq_true rfl) (Nat.le_of_ble_eq_true rfl) (q_new hB cf7 (by decide) (own := "PulseRemote") rfl k_104 k_105 k_78 (by decide +kernel : decode cX11_init 134 = .ok (.new 9, 3)) hf (fun x124 hf => ?_))
  refine r_dup hB (by decide +kernel : decode cX11_init 137 = .ok (.dup, 1)) rfl ?_
  refine WW.mono (kc := 24 + rmX7_init.cells) (ks := 2424 + rmX7_init.slots) (Nat.le_of_ble_eq_true rfl) (Nat.le_of_ble_eq_true rfl) (q_cI hB [] [.ref (b + x124.1), .int 5, .ref (b + x122)] (own := "PulseRemote") rfl cmX7_init hiX7_init rfl (Or.inl k_106) (by decide) rfl (Nat.le_of_ble_eq_true rfl) (by decide +kernel : decode cX11_init 138 = .ok (.invokespecial 11, 3)) (fun z hz => m_X7_init _ _ _ _ hz) rfl hf (fun z126 hf => ?_))
  refine q_aast hB (t := 19) (C := RX7) cf7 (Or.inr (Or.inl ⟨rfl, rfl⟩)) (by decide +kernel : decode cX11_init 141 = .ok (.aastore, 1)) hf (fun m127 hf => ?_)
  refine r_iinc hB (v := 6) 0 rfl (by decide +kernel : decode cX11_init 142 = .ok (.iinc 1 1, 3)) (by decide +kernel) (by decide) rfl ?_
  refine ww_lv (lv' := [(1, .int 6), (0, .ref (b + l0))]) rfl ?_
  refine r_goto hB (tgt := 123) (by decide +kernel : decode cX11_init 145 = .ok (.goto (-22), 3)) (by decide) ?_
  refine r_iload_n hB 0 rfl (by decide +kernel : decode cX11_init 123 = .ok (.iload_n 1, 1)) rfl ?_
  refine r_bipush hB (v := 6) (by decide +kernel : decode cX11_init 124 = .ok (.bipush 6, 2)) (by decide +kernel) ?_
  refine r_icmp_ge hB (tgt := 148) (by decide +kernel : decode cX11_init 126 = .ok (.if_icmp .ge 22, 3)) (by decide) (show (if (6 : Int32) ≤ 6 then (some () : Option Unit) else none) = some () by decide +kernel) (fun _ _ => ?_) (fun _ h => nomatch h)
  refine r_iconst hB (v := 0) (by decide +kernel : decode cX11_init 148 = .ok (.iconst 0, 1)) (by decide +kernel) ?_
  refine r_istore_n hB (by decide +kernel : decode cX11_init 149 = .ok (.istore_n 1, 1)) rfl (by decide) rfl ?_
  refine ww_lv (lv' := [(1, .int 0), (0, .ref (b + l0))]) rfl ?_
  refine r_iload_n hB 0 rfl (by decide +kernel : decode cX11_init 150 = .ok (.iload_n 1, 1)) rfl ?_
  refine r_bipush hB (v := 12) (by decide +kernel : decode cX11_init 151 = .ok (.bipush 12, 2)) (by decide +kernel) ?_
  refine r_icmp_ge hB (tgt := 175) (by decide +kernel : decode cX11_init 153 = .ok (.if_icmp .ge 22, 3)) (by decide) (show (if (12 : Int32) ≤ 0 then (none : Option Unit) else some ()) = some () by decide +kernel) (fun _ h => nomatch h) (fun _ _ => ?_)
  refine r_aload_n hB 1 rfl (by decide +kernel : decode cX11_init 156 = .ok (.aload_n 0, 1)) rfl ?_
  refine q_gR hB cf11 6 (by decide) (own := "PulseRemote") rfl (Or.inl k_471) (by decide +kernel) (by decide +kernel : decode cX11_init 157 = .ok (.getfield 41, 3)) hf (fun x139 hf => ?_)
  refine r_iload_n hB 0 rfl (by decide +kernel : decode cX11_init 160 = .ok (.iload_n 1, 1)) rfl ?_
  refine WW.mono (kc := 23 + 1) (ks := 2422 + 2) (Nat.le_of_ble_eq_true rfl) (Nat.le_of_ble_eq_true rfl) (q_new hB cf10 (by decide) (own := "PulseRemote") rfl k_262 k_194 k_81 (by decide +kernel : decode cX11_init 161 = .ok (.new 34, 3)) hf (fun x141 hf => ?_))
  refine r_dup hB (by decide +kernel : decode cX11_init 164 = .ok (.dup, 1)) rfl ?_
  refine WW.mono (kc := 22 + rmX10_init.cells) (ks := 2222 + rmX10_init.slots) (Nat.le_of_ble_eq_true rfl) (Nat.le_of_ble_eq_true rfl) (q_cI hB [] [.ref (b + x141.1), .int 0, .ref (b + x139)] (own := "PulseRemote") rfl cmX10_init hiX10_init rfl (Or.inr ⟨_, k_263⟩) (by decide) rfl (Nat.le_of_ble_eq_true rfl) (by decide +kernel : decode cX11_init 165 = .ok (.invokespecial 36, 3)) (fun z hz => m_X10_init _ _ _ _ hz) rfl hf (fun z143 hf => ?_))
  refine q_aast hB (t := 20) (C := RX10) cf10 (Or.inr (Or.inr ⟨rfl, rfl⟩)) (by decide +kernel : decode cX11_init 168 = .ok (.aastore, 1)) hf (fun m144 hf => ?_)
  refine r_iinc hB (v := 1) 0 rfl (by decide +kernel : decode cX11_init 169 = .ok (.iinc 1 1, 3)) (by decide +kernel) (by decide) rfl ?_
  refine ww_lv (lv' := [(1, .int 1), (0, .ref (b + l0))]) rfl ?_
  refine r_goto hB (tgt := 150) (by decide +kernel : decode cX11_init 172 = .ok (.goto (-22), 3)) (by decide) ?_
  refine r_iload_n hB 0 rfl (by decide +kernel : decode cX11_init 150 = .ok (.iload_n 1, 1)) rfl ?_
  refine r_bipush hB (v := 12) (by decide +kernel : decode cX11_init 151 = .ok (.bipush 12, 2)) (by decide +kernel) ?_
  refine r_icmp_ge hB (tgt := 175) (by decide +kernel : decode cX11_init 153 = .ok (.if_icmp .ge 22, 3)) (by decide) (show (if (12 : Int32) ≤ 1 then (none : Option Unit) else some ()) = some () by decide +kernel) (fun _ h => nomatch h) (fun _ _ => ?_)
  refine r_aload_n hB 1 rfl (by decide +kernel : decode cX11_init 156 = .ok (.aload_n 0, 1)) rfl ?_
  refine q_gR hB cf11 6 (by decide) (own := "PulseRemote") rfl (Or.inl k_471) (by decide +kernel) (by decide +kernel : decode cX11_init 157 = .ok (.getfield 41, 3)) hf (fun x151 hf => ?_)
  refine r_iload_n hB 0 rfl (by decide +kernel : decode cX11_init 160 = .ok (.iload_n 1, 1)) rfl ?_
  refine WW.mono (kc := 21 + 1) (ks := 2220 + 2) (Nat.le_of_ble_eq_true rfl) (Nat.le_of_ble_eq_true rfl) (q_new hB cf10 (by decide) (own := "PulseRemote") rfl k_262 k_194 k_81 (by decide +kernel : decode cX11_init 161 = .ok (.new 34, 3)) hf (fun x153 hf => ?_))
  refine r_dup hB (by decide +kernel : decode cX11_init 164 = .ok (.dup, 1)) rfl ?_
  refine WW.mono (kc := 20 + rmX10_init.cells) (ks := 2020 + rmX10_init.slots) (Nat.le_of_ble_eq_true rfl) (Nat.le_of_ble_eq_true rfl) (q_cI hB [] [.ref (b + x153.1), .int 1, .ref (b + x151)] (own := "PulseRemote") rfl cmX10_init hiX10_init rfl (Or.inr ⟨_, k_263⟩) (by decide) rfl (Nat.le_of_ble_eq_true rfl) (by decide +kernel : decode cX11_init 165 = .ok (.invokespecial 36, 3)) (fun z hz => m_X10_init _ _ _ _ hz) rfl hf (fun z155 hf => ?_))
  refine q_aast hB (t := 20) (C := RX10) cf10 (Or.inr (Or.inr ⟨rfl, rfl⟩)) (by decide +kernel : decode cX11_init 168 = .ok (.aastore, 1)) hf (fun m156 hf => ?_)
  refine r_iinc hB (v := 2) 0 rfl (by decide +kernel : decode cX11_init 169 = .ok (.iinc 1 1, 3)) (by decide +kernel) (by decide) rfl ?_
  refine ww_lv (lv' := [(1, .int 2), (0, .ref (b + l0))]) rfl ?_
  refine r_goto hB (tgt := 150) (by decide +kernel : decode cX11_init 172 = .ok (.goto (-22), 3)) (by decide) ?_
  refine r_iload_n hB 0 rfl (by decide +kernel : decode cX11_init 150 = .ok (.iload_n 1, 1)) rfl ?_
  refine r_bipush hB (v := 12) (by decide +kernel : decode cX11_init 151 = .ok (.bipush 12, 2)) (by decide +kernel) ?_
  refine r_icmp_ge hB (tgt := 175) (by decide +kernel : decode cX11_init 153 = .ok (.if_icmp .ge 22, 3)) (by decide) (show (if (12 : Int32) ≤ 2 then (none : Option Unit) else some ()) = some () by decide +kernel) (fun _ h => nomatch h) (fun _ _ => ?_)
  refine r_aload_n hB 1 rfl (by decide +kernel : decode cX11_init 156 = .ok (.aload_n 0, 1)) rfl ?_
  refine q_gR hB cf11 6 (by decide) (own := "PulseRemote") rfl (Or.inl k_471) (by decide +kernel) (by decide +kernel : decode cX11_init 157 = .ok (.getfield 41, 3)) hf (fun x163 hf => ?_)
  refine r_iload_n hB 0 rfl (by decide +kernel : decode cX11_init 160 = .ok (.iload_n 1, 1)) rfl ?_
  refine WW.mono (kc := 19 + 1) (ks := 2018 + 2) (Nat.le_of_ble_eq_true rfl) (Nat.le_of_ble_eq_true rfl) (q_new hB cf10 (by decide) (own := "PulseRemote") rfl k_262 k_194 k_81 (by decide +kernel : decode cX11_init 161 = .ok (.new 34, 3)) hf (fun x165 hf => ?_))
  refine r_dup hB (by decide +kernel : decode cX11_init 164 = .ok (.dup, 1)) rfl ?_
  refine WW.mono (kc := 18 + rmX10_init.cells) (ks := 1818 + rmX10_init.slots) (Nat.le_of_ble_eq_true rfl) (Nat.le_of_ble_eq_true rfl) (q_cI hB [] [.ref (b + x165.1), .int 2, .ref (b + x163)] (own := "PulseRemote") rfl cmX10_init hiX10_init rfl (Or.inr ⟨_, k_263⟩) (by decide) rfl (Nat.le_of_ble_eq_true rfl) (by decide +kernel : decode cX11_init 165 = .ok (.invokespecial 36, 3)) (fun z hz => m_X10_init _ _ _ _ hz) rfl hf (fun z167 hf => ?_))
  refine q_aast hB (t := 20) (C := RX10) cf10 (Or.inr (Or.inr ⟨rfl, rfl⟩)) (by decide +kernel : decode cX11_init 168 = .ok (.aastore, 1)) hf (fun m168 hf => ?_)
  refine r_iinc hB (v := 3) 0 rfl (by decide +kernel : decode cX11_init 169 = .ok (.iinc 1 1, 3)) (by decide +kernel) (by decide) rfl ?_
  refine ww_lv (lv' := [(1, .int 3), (0, .ref (b + l0))]) rfl ?_
  refine r_goto hB (tgt := 150) (by decide +kernel : decode cX11_init 172 = .ok (.goto (-22), 3)) (by decide) ?_
  refine r_iload_n hB 0 rfl (by decide +kernel : decode cX11_init 150 = .ok (.iload_n 1, 1)) rfl ?_
  refine r_bipush hB (v := 12) (by decide +kernel : decode cX11_init 151 = .ok (.bipush 12, 2)) (by decide +kernel) ?_
  refine r_icmp_ge hB (tgt := 175) (by decide +kernel : decode cX11_init 153 = .ok (.if_icmp .ge 22, 3)) (by decide) (show (if (12 : Int32) ≤ 3 then (none : Option Unit) else some ()) = some () by decide +kernel) (fun _ h => nomatch h) (fun _ _ => ?_)
  refine r_aload_n hB 1 rfl (by decide +kernel : decode cX11_init 156 = .ok (.aload_n 0, 1)) rfl ?_
  refine q_gR hB cf11 6 (by decide) (own := "PulseRemote") rfl (Or.inl k_471) (by decide +kernel) (by decide +kernel : decode cX11_init 157 = .ok (.getfield 41, 3)) hf (fun x175 hf => ?_)
  refine r_iload_n hB 0 rfl (by decide +kernel : decode cX11_init 160 = .ok (.iload_n 1, 1)) rfl ?_
  refine WW.mono (kc := 17 + 1) (ks := 1816 + 2) (Nat.le_of_ble_eq_true rfl) (Nat.le_of_ble_eq_true rfl) (q_new hB cf10 (by decide) (own := "PulseRemote") rfl k_262 k_194 k_81 (by decide +kernel : decode cX11_init 161 = .ok (.new 34, 3)) hf (fun x177 hf => ?_))
  refine r_dup hB (by decide +kernel : decode cX11_init 164 = .ok (.dup, 1)) rfl ?_
  refine WW.mono (kc := 16 + rmX10_init.cells) (ks := 1616 + rmX10_init.slots) (Nat.le_of_ble_eq_true rfl) (Nat.le_of_ble_eq_true rfl) (q_cI hB [] [.ref (b + x177.1), .int 3, .ref (b + x175)] (own := "PulseRemote") rfl cmX10_init hiX10_init rfl (Or.inr ⟨_, k_263⟩) (by decide) rfl (Nat.le_of_ble_eq_true rfl) (by decide +kernel : decode cX11_init 165 = .ok (.invokespecial 36, 3)) (fun z hz => m_X10_init _ _ _ _ hz) rfl hf (fun z179 hf => ?_))
  refine q_aast hB (t := 20) (C := RX10) cf10 (Or.inr (Or.inr ⟨rfl, rfl⟩)) (by decide +kernel : decode cX11_init 168 = .ok (.aastore, 1)) hf (fun m180 hf => ?_)
  refine r_iinc hB (v := 4) 0 rfl (by decide +kernel : decode cX11_init 169 = .ok (.iinc 1 1, 3)) (by decide +kernel) (by decide) rfl ?_
  refine ww_lv (lv' := [(1, .int 4), (0, .ref (b + l0))]) rfl ?_
  refine r_goto hB (tgt := 150) (by decide +kernel : decode cX11_init 172 = .ok (.goto (-22), 3)) (by decide) ?_
  refine r_iload_n hB 0 rfl (by decide +kernel : decode cX11_init 150 = .ok (.iload_n 1, 1)) rfl ?_
  refine r_bipush hB (v := 12) (by decide +kernel : decode cX11_init 151 = .ok (.bipush 12, 2)) (by decide +kernel) ?_
  refine r_icmp_ge hB (tgt := 175) (by decide +kernel : decode cX11_init 153 = .ok (.if_icmp .ge 22, 3)) (by decide) (show (if (12 : Int32) ≤ 4 then (none : Option Unit) else some ()) = some () by decide +kernel) (fun _ h => nomatch h) (fun _ _ => ?_)
  refine r_aload_n hB 1 rfl (by decide +kernel : decode cX11_init 156 = .ok (.aload_n 0, 1)) rfl ?_
  refine q_gR hB cf11 6 (by decide) (own := "PulseRemote") rfl (Or.inl k_471) (by decide +kernel) (by decide +kernel : decode cX11_init 157 = .ok (.getfield 41, 3)) hf (fun x187 hf => ?_)
  refine r_iload_n hB 0 rfl (by decide +kernel : decode cX11_init 160 = .ok (.iload_n 1, 1)) rfl ?_
  refine WW.mono (kc := 15 + 1) (ks := 1614 + 2) (Nat.le_of_ble_eq_true rfl) (Nat.le_of_ble_eq_true rfl) (q_new hB cf10 (by decide) (own := "PulseRemote") rfl k_262 k_194 k_81 (by decide +kernel : decode cX11_init 161 = .ok (.new 34, 3)) hf (fun x189 hf => ?_))
  refine r_dup hB (by decide +kernel : decode cX11_init 164 = .ok (.dup, 1)) rfl ?_
  refine WW.mono (kc := 14 + rmX10_init.cells) (ks := 1414 + rmX10_init.slots) (Nat.le_of_ble_eq_true rfl) (Nat.le_of_ble_eq_true rfl) (q_cI hB [] [.ref (b + x189.1), .int 4, .ref (b + x187)] (own := "PulseRemote") rfl cmX10_init hiX10_init rfl (Or.inr ⟨_, k_263⟩) (by decide) rfl (Nat.le_of_ble_eq_true rfl) (by decide +kernel : decode cX11_init 165 = .ok (.invokespecial 36, 3)) (fun z hz => m_X10_init _ _ _ _ hz) rfl hf (fun z191 hf => ?_))
  refine q_aast hB (t := 20) (C := RX10) cf10 (Or.inr (Or.inr ⟨rfl, rfl⟩)) (by decide +kernel : decode cX11_init 168 = .ok (.aastore, 1)) hf (fun m192 hf => ?_)
  refine r_iinc hB (v := 5) 0 rfl (by decide +kernel : decode cX11_init 169 = .ok (.iinc 1 1, 3)) (by decide +kernel) (by decide) rfl ?_
  refine ww_lv (lv' := [(1, .int 5), (0, .ref (b + l0))]) rfl ?_
  refine r_goto hB (tgt := 150) (by decide +kernel : decode cX11_init 172 = .ok (.goto (-22), 3)) (by decide) ?_
  refine r_iload_n hB 0 rfl (by decide +kernel : decode cX11_init 150 = .ok (.iload_n 1, 1)) rfl ?_
  refine r_bipush hB (v := 12) (by decide +kernel : decode cX11_init 151 = .ok (.bipush 12, 2)) (by decide +kernel) ?_
  refine r_icmp_ge hB (tgt := 175) (by decide +kernel : decode cX11_init 153 = .ok (.if_icmp .ge 22, 3)) (by decide) (show (if (12 : Int32) ≤ 5 then (none : Option Unit) else some ()) = some () by decide +kernel) (fun _ h => nomatch h) (fun _ _ => ?_)
  refine r_aload_n hB 1 rfl (by decide +kernel : decode cX11_init 156 = .ok (.aload_n 0, 1)) rfl ?_
  refine q_gR hB cf11 6 (by decide) (own := "PulseRemote") rfl (Or.inl k_471) (by decide +kernel) (by decide +kernel : decode cX11_init 157 = .ok (.getfield 41, 3)) hf (fun x199 hf => ?_)
  refine r_iload_n hB 0 rfl (by decide +kernel : decode cX11_init 160 = .ok (.iload_n 1, 1)) rfl ?_
  refine WW.mono (kc := 13 + 1) (ks := 1412 + 2) (Nat.le_of_ble_eq_true rfl) (Nat.le_of_ble_eq_true rfl) (q_new hB cf10 (by decide) (own := "PulseRemote") rfl k_262 k_194 k_81 (by decide +kernel : decode cX11_init 161 = .ok (.new 34, 3)) hf (fun x201 hf => ?_))
  refine r_dup hB (by decide +kernel : decode cX11_init 164 = .ok (.dup, 1)) rfl ?_
  refine WW.mono (kc := 12 + rmX10_init.cells) (ks := 1212 + rmX10_init.slots) (Nat.le_of_ble_eq_true rfl) (Nat.le_of_ble_eq_true rfl) (q_cI hB [] [.ref (b + x201.1), .int 5, .ref (b + x199)] (own := "PulseRemote") rfl cmX10_init hiX10_init rfl (Or.inr ⟨_, k_263⟩) (by decide) rfl (Nat.le_of_ble_eq_true rfl) (by decide +kernel : decode cX11_init 165 = .ok (.invokespecial 36, 3)) (fun z hz => m_X10_init _ _ _ _ hz) rfl hf (fun z203 hf => ?_))
  refine q_aast hB (t := 20) (C := RX10) cf10 (Or.inr (Or.inr ⟨rfl, rfl⟩)) (by decide +kernel : decode cX11_init 168 = .ok (.aastore, 1)) hf (fun m204 hf => ?_)
  refine r_iinc hB (v := 6) 0 rfl (by decide +kernel : decode cX11_init 169 = .ok (.iinc 1 1, 3)) (by decide +kernel) (by decide) rfl ?_
  refine ww_lv (lv' := [(1, .int 6), (0, .ref (b + l0))]) rfl ?_
  refine r_goto hB (tgt := 150) (by decide +kernel : decode cX11_init 172 = .ok (.goto (-22), 3)) (by decide) ?_
  refine r_iload_n hB 0 rfl (by decide +kernel : decode cX11_init 150 = .ok (.iload_n 1, 1)) rfl ?_
  refine r_bipush hB (v := 12) (by decide +kernel : decode cX11_init 151 = .ok (.bipush 12, 2)) (by decide +kernel) ?_
  refine r_icmp_ge hB (tgt := 175) (by decide +kernel : decode cX11_init 153 = .ok (.if_icmp .ge 22, 3)) (by decide) (show (if (12 : Int32) ≤ 6 then (none : Option Unit) else some ()) = some () by decide +kernel) (fun _ h => nomatch h) (fun _ _ => ?_)
  refine r_aload_n hB 1 rfl (by decide +kernel : decode cX11_init 156 = .ok (.aload_n 0, 1)) rfl ?_
  refine q_gR hB cf11 6 (by decide) (own := "PulseRemote") rfl (Or.inl k_471) (by decide +kernel) (by decide +kernel : decode cX11_init 157 = .ok (.getfield 41, 3)) hf (fun x211 hf => ?_)
  refine r_iload_n hB 0 rfl (by decide +kernel : decode cX11_init 160 = .ok (.iload_n 1, 1)) rfl ?_
  refine WW.mono (kc := 11 + 1) (ks := 1210 + 2) (Nat.le_of_ble_eq_true rfl) (Nat.le_of_ble_eq_true rfl) (q_new hB cf10 (by decide) (own := "PulseRemote") rfl k_262 k_194 k_81 (by decide +kernel : decode cX11_init 161 = .ok (.new 34, 3)) hf (fun x213 hf => ?_))
  refine r_dup hB (by decide +kernel : decode cX11_init 164 = .ok (.dup, 1)) rfl ?_
  refine WW.mono (kc := 10 + rmX10_init.cells) (ks := 1010 + rmX10_init.slots) (Nat.le_of_ble_eq_true rfl) (Nat.le_of_ble_eq_true rfl) (q_cI hB [] [.ref (b + x213.1), .int 6, .ref (b + x211)] (own := "PulseRemote") rfl cmX10_init hiX10_init rfl (Or.inr ⟨_, k_263⟩) (by decide) rfl (Nat.le_of_ble_eq_true rfl) (by decide +kernel : decode cX11_init 165 = .ok (.invokespecial 36, 3)) (fun z hz => m_X10_init _ _ _ _ hz) rfl hf (fun z215 hf => ?_))
  refine q_aast hB (t := 20) (C := RX10) cf10 (Or.inr (Or.inr ⟨rfl, rfl⟩)) (by decide +kernel : decode cX11_init 168 = .ok (.aastore, 1)) hf (fun m216 hf => ?_)
  refine r_iinc hB (v := 7) 0 rfl (by decide +kernel : decode cX11_init 169 = .ok (.iinc 1 1, 3)) (by decide +kernel) (by decide) rfl ?_
  refine ww_lv (lv' := [(1, .int 7), (0, .ref (b + l0))]) rfl ?_
  refine r_goto hB (tgt := 150) (by decide +kernel : decode cX11_init 172 = .ok (.goto (-22), 3)) (by decide) ?_
  refine r_iload_n hB 0 rfl (by decide +kernel : decode cX11_init 150 = .ok (.iload_n 1, 1)) rfl ?_
  refine r_bipush hB (v := 12) (by decide +kernel : decode cX11_init 151 = .ok (.bipush 12, 2)) (by decide +kernel) ?_
  refine r_icmp_ge hB (tgt := 175) (by decide +kernel : decode cX11_init 153 = .ok (.if_icmp .ge 22, 3)) (by decide) (show (if (12 : Int32) ≤ 7 then (none : Option Unit) else some ()) = some () by decide +kernel) (fun _ h => nomatch h) (fun _ _ => ?_)
  refine r_aload_n hB 1 rfl (by decide +kernel : decode cX11_init 156 = .ok (.aload_n 0, 1)) rfl ?_
  refine q_gR hB cf11 6 (by decide) (own := "PulseRemote") rfl (Or.inl k_471) (by decide +kernel) (by decide +kernel : decode cX11_init 157 = .ok (.getfield 41, 3)) hf (fun x223 hf => ?_)
  refine r_iload_n hB 0 rfl (by decide +kernel : decode cX11_init 160 = .ok (.iload_n 1, 1)) rfl ?_
  refine WW.mono (kc := 9 + 1) (ks := 1008 + 2) (Nat.le_of_ble_eq_true rfl) (Nat.le_of_ble_eq_true rfl) (q_new hB cf10 (by decide) (own := "PulseRemote") rfl k_262 k_194 k_81 (by decide +kernel : decode cX11_init 161 = .ok (.new 34, 3)) hf (fun x225 hf => ?_))
  refine r_dup hB (by decide +kernel : decode cX11_init 164 = .ok (.dup, 1)) rfl ?_
  refine WW.mono (kc := 8 + rmX10_init.cells) (ks := 808 + rmX10_init.slots) (Nat.le_of_ble_eq_true rfl) (Nat.le_of_ble_eq_true rfl) (q_cI hB [] [.ref (b + x225.1), .int 7, .ref (b + x223)] (own := "PulseRemote") rfl cmX10_init hiX10_init rfl (Or.inr ⟨_, k_263⟩) (by decide) rfl (Nat.le_of_ble_eq_true rfl) (by decide +kernel : decode cX11_init 165 = .ok (.invokespecial 36, 3)) (fun z hz => m_X10_init _ _ _ _ hz) rfl hf (fun z227 hf => ?_))
  refine q_aast hB (t := 20) (C := RX10) cf10 (Or.inr (Or.inr ⟨rfl, rfl⟩)) (by decide +kernel : decode cX11_init 168 = .ok (.aastore, 1)) hf (fun m228 hf => ?_)
  refine r_iinc hB (v := 8) 0 rfl (by decide +kernel : decode cX11_init 169 = .ok (.iinc 1 1, 3)) (by decide +kernel) (by decide) rfl ?_
  refine ww_lv (lv' := [(1, .int 8), (0, .ref (b + l0))]) rfl ?_
  refine r_goto hB (tgt := 150) (by decide +kernel : decode cX11_init 172 = .ok (.goto (-22), 3)) (by decide) ?_
  refine r_iload_n hB 0 rfl (by decide +kernel : decode cX11_init 150 = .ok (.iload_n 1, 1)) rfl ?_
  refine r_bipush hB (v := 12) (by decide +kernel : decode cX11_init 151 = .ok (.bipush 12, 2)) (by decide +kernel) ?_
  refine r_icmp_ge hB (tgt := 175) (by decide +kernel : decode cX11_init 153 = .ok (.if_icmp .ge 22, 3)) (by decide) (show (if (12 : Int32) ≤ 8 then (none : Option Unit) else some ()) = some () by decide +kernel) (fun _ h => nomatch h) (fun _ _ => ?_)
  refine r_aload_n hB 1 rfl (by decide +kernel : decode cX11_init 156 = .ok (.aload_n 0, 1)) rfl ?_
  refine q_gR hB cf11 6 (by decide) (own := "PulseRemote") rfl (Or.inl k_471) (by decide +kernel) (by decide +kernel : decode cX11_init 157 = .ok (.getfield 41, 3)) hf (fun x235 hf => ?_)
  refine r_iload_n hB 0 rfl (by decide +kernel : decode cX11_init 160 = .ok (.iload_n 1, 1)) rfl ?_
  refine WW.mono (kc := 7 + 1) (ks := 806 + 2) (Nat.le_of_ble_eq_true rfl) (Nat.le_of_ble_eq_true rfl) (q_new hB cf10 (by decide) (own := "PulseRemote") rfl k_262 k_194 k_81 (by decide +kernel : decode cX11_init 161 = .ok (.new 34, 3)) hf (fun x237 hf => ?_))
  refine r_dup hB (by decide +kernel : decode cX11_init 164 = .ok (.dup, 1)) rfl ?_
  refine WW.mono (kc := 6 + rmX10_init.cells) (ks := 606 + rmX10_init.slots) (Nat.le_of_ble_eq_true rfl) (Nat.le_of_ble_eq_true rfl) (q_cI hB [] [.ref (b + x237.1), .int 8, .ref (b + x235)] (own := "PulseRemote") rfl cmX10_init hiX10_init rfl (Or.inr ⟨_, k_263⟩) (by decide) rfl (Nat.le_of_ble_eq_true rfl) (by decide +kernel : decode cX11_init 165 = .ok (.invokespecial 36, 3)) (fun z hz => m_X10_init _ _ _ _ hz) rfl hf (fun z239 hf => ?_))
  refine q_aast hB (t := 20) (C := RX10) cf10 (Or.inr (Or.inr ⟨rfl, rfl⟩)) (by decide +kernel : decode cX11_init 168 = .ok (.aastore, 1)) hf (fun m240 hf => ?_)
  refine r_iinc hB (v := 9) 0 rfl (by decide +kernel : decode cX11_init 169 = .ok (.iinc 1 1, 3)) (by decide +kernel) (by decide) rfl ?_
  refine ww_lv (lv' := [(1, .int 9), (0, .ref (b + l0))]) rfl ?_
  refine r_goto hB (tgt := 150) (by decide +kernel : decode cX11_init 172 = .ok (.goto (-22), 3)) (by decide) ?_
  refine r_iload_n hB 0 rfl (by decide +kernel : decode cX11_init 150 = .ok (.iload_n 1, 1)) rfl ?_
  refine r_bipush hB (v := 12) (by decide +kernel : decode cX11_init 151 = .ok (.bipush 12, 2)) (by decide +kernel) ?_
  refine r_icmp_ge hB (tgt := 175) (by decide +kernel : decode cX11_init 153 = .ok (.if_icmp .ge 22, 3)) (by decide) (show (if (12 : Int32) ≤ 9 then (none : Option Unit) else some ()) = some () by decide +kernel) (fun _ h => nomatch h) (fun _ _ => ?_)
  refine r_aload_n hB 1 rfl (by decide +kernel : decode cX11_init 156 = .ok (.aload_n 0, 1)) rfl ?_
  refine q_gR hB cf11 6 (by decide) (own := "PulseRemote") rfl (Or.inl k_471) (by decide +kernel) (by decide +kernel : decode cX11_init 157 = .ok (.getfield 41, 3)) hf (fun x247 hf => ?_)
  refine r_iload_n hB 0 rfl (by decide +kernel : decode cX11_init 160 = .ok (.iload_n 1, 1)) rfl ?_
  refine WW.mono (kc := 5 + 1) (ks := 604 + 2) (Nat.le_of_ble_eq_true rfl) (Nat.le_of_ble_eq_true rfl) (q_new hB cf10 (by decide) (own := "PulseRemote") rfl k_262 k_194 k_81 (by decide +kernel : decode cX11_init 161 = .ok (.new 34, 3)) hf (fun x249 hf => ?_))
  refine r_dup hB (by decide +kernel : decode cX11_init 164 = .ok (.dup, 1)) rfl ?_
  refine WW.mono (kc := 4 + rmX10_init.cells) (ks := 404 + rmX10_init.slots) (Nat.le_of_ble_eq_true rfl) (Nat.le_of_ble_eq_true rfl) (q_cI hB [] [.ref (b + x249.1), .int 9, .ref (b + x247)] (own := "PulseRemote") rfl cmX10_init hiX10_init rfl (Or.inr ⟨_, k_263⟩) (by decide) rfl (Nat.le_of_ble_eq_true rfl) (by decide +kernel : decode cX11_init 165 = .ok (.invokespecial 36, 3)) (fun z hz => m_X10_init _ _ _ _ hz) rfl hf (fun z251 hf => ?_))
  refine q_aast hB (t := 20) (C := RX10) cf10 (Or.inr (Or.inr ⟨rfl, rfl⟩)) (by decide +kernel : decode cX11_init 168 = .ok (.aastore, 1)) hf (fun m252 hf => ?_)
  refine r_iinc hB (v := 10) 0 rfl (by decide +kernel : decode cX11_init 169 = .ok (.iinc 1 1, 3)) (by decide +kernel) (by decide) rfl ?_
  refine ww_lv (lv' := [(1, .int 10), (0, .ref (b + l0))]) rfl ?_
  refine r_goto hB (tgt := 150) (by decide +kernel : decode cX11_init 172 = .ok (.goto (-22), 3)) (by decide) ?_
  refine r_iload_n hB 0 rfl (by decide +kernel : decode cX11_init 150 = .ok (.iload_n 1, 1)) rfl ?_
  refine r_bipush hB (v := 12) (by decide +kernel : decode cX11_init 151 = .ok (.bipush 12, 2)) (by decide +kernel) ?_
  refine r_icmp_ge hB (tgt := 175) (by decide +kernel : decode cX11_init 153 = .ok (.if_icmp .ge 22, 3)) (by decide) (show (if (12 : Int32) ≤ 10 then (none : Option Unit) else some ()) = some () by decide +kernel) (fun _ h => nomatch h) (fun _ _ => ?_)
  refine r_aload_n hB 1 rfl (by decide +kernel : decode cX11_init 156 = .ok (.aload_n 0, 1)) rfl ?_
  refine q_gR hB cf11 6 (by decide) (own := "PulseRemote") rfl (Or.inl k_471) (by decide +kernel) (by decide +kernel : decode cX11_init 157 = .ok (.getfield 41, 3)) hf (fun x259 hf => ?_)
  refine r_iload_n hB 0 rfl (by decide +kernel : decode cX11_init 160 = .ok (.iload_n 1, 1)) rfl ?_
  refine WW.mono (kc := 3 + 1) (ks := 402 + 2) (Nat.le_of_ble_eq_true rfl) (Nat.le_of_ble_eq_true rfl) (q_new hB cf10 (by decide) (own := "PulseRemote") rfl k_262 k_194 k_81 (by decide +kernel : decode cX11_init 161 = .ok (.new 34, 3)) hf (fun x261 hf => ?_))
  refine r_dup hB (by decide +kernel : decode cX11_init 164 = .ok (.dup, 1)) rfl ?_
  refine WW.mono (kc := 2 + rmX10_init.cells) (ks := 202 + rmX10_init.slots) (Nat.le_of_ble_eq_true rfl) (Nat.le_of_ble_eq_true rfl) (q_cI hB [] [.ref (b + x261.1), .int 10, .ref (b + x259)] (own := "PulseRemote") rfl cmX10_init hiX10_init rfl (Or.inr ⟨_, k_263⟩) (by decide) rfl (Nat.le_of_ble_eq_true rfl) (by decide +kernel : decode cX11_init 165 = .ok (.invokespecial 36, 3)) (fun z hz => m_X10_init _ _ _ _ hz) rfl hf (fun z263 hf => ?_))
  refine q_aast hB (t := 20) (C := RX10) cf10 (Or.inr (Or.inr ⟨rfl, rfl⟩)) (by decide +kernel : decode cX11_init 168 = .ok (.aastore, 1)) hf (fun m264 hf => ?_)
  refine r_iinc hB (v := 11) 0 rfl (by decide +kernel : decode cX11_init 169 = .ok (.iinc 1 1, 3)) (by decide +kernel) (by decide) rfl ?_
  refine ww_lv (lv' := [(1, .int 11), (0, .ref (b + l0))]) rfl ?_
  refine r_goto hB (tgt := 150) (by decide +kernel : decode cX11_init 172 = .ok (.goto (-22), 3)) (by decide) ?_
  refine r_iload_n hB 0 rfl (by decide +kernel : decode cX11_init 150 = .ok (.iload_n 1, 1)) rfl ?_
  refine r_bipush hB (v := 12) (by decide +kernel : decode cX11_init 151 = .ok (.bipush 12, 2)) (by decide +kernel) ?_
  refine r_icmp_ge hB (tgt := 175) (by decide +kernel : decode cX11_init 153 = .ok (.if_icmp .ge 22, 3)) (by decide) (show (if (12 : Int32) ≤ 11 then (none : Option Unit) else some ()) = some () by decide +kernel) (fun _ h => nomatch h) (fun _ _ => ?_)
  refine r_aload_n hB 1 rfl (by decide +kernel : decode cX11_init 156 = .ok (.aload_n 0, 1)) rfl ?_
  refine q_gR hB cf11 6 (by decide) (own := "PulseRemote") rfl (Or.inl k_471) (by decide +kernel) (by decide +kernel : decode cX11_init 157 = .ok (.getfield 41, 3)) hf (fun x271 hf => ?_)
  refine r_iload_n hB 0 rfl (by decide +kernel : decode cX11_init 160 = .ok (.iload_n 1, 1)) rfl ?_
  refine WW.mono (kc := 1 + 1) (ks := 200 + 2) (Nat.le_of_ble_eq_true rfl) (Nat.le_of_ble_eq_true rfl) (q_new hB cf10 (by decide) (own := "PulseRemote") rfl k_262 k_194 k_81 (by decide +kernel : decode cX11_init 161 = .ok (.new 34, 3)) hf (fun x273 hf => ?_))
  refine r_dup hB (by decide +kernel : decode cX11_init 164 = .ok (.dup, 1)) rfl ?_
  refine WW.mono (kc := 0 + rmX10_init.cells) (ks := 0 + rmX10_init.slots) (Nat.le_of_ble_eq_true rfl) (Nat.le_of_ble_eq_true rfl) (q_cI hB [] [.ref (b + x273.1), .int 11, .ref (b + x271)] (own := "PulseRemote") rfl cmX10_init hiX10_init rfl (Or.inr ⟨_, k_263⟩) (by decide) rfl (Nat.le_of_ble_eq_true rfl) (by decide +kernel : decode cX11_init 165 = .ok (.invokespecial 36, 3)) (fun z hz => m_X10_init _ _ _ _ hz) rfl hf (fun z275 hf => ?_))
  refine q_aast hB (t := 20) (C := RX10) cf10 (Or.inr (Or.inr ⟨rfl, rfl⟩)) (by decide +kernel : decode cX11_init 168 = .ok (.aastore, 1)) hf (fun m276 hf => ?_)
  refine r_iinc hB (v := 12) 0 rfl (by decide +kernel : decode cX11_init 169 = .ok (.iinc 1 1, 3)) (by decide +kernel) (by decide) rfl ?_
  refine ww_lv (lv' := [(1, .int 12), (0, .ref (b + l0))]) rfl ?_
  refine r_goto hB (tgt := 150) (by decide +kernel : decode cX11_init 172 = .ok (.goto (-22), 3)) (by decide) ?_
  refine r_iload_n hB 0 rfl (by decide +kernel : decode cX11_init 150 = .ok (.iload_n 1, 1)) rfl ?_
  refine r_bipush hB (v := 12) (by decide +kernel : decode cX11_init 151 = .ok (.bipush 12, 2)) (by decide +kernel) ?_
  refine r_icmp_ge hB (tgt := 175) (by decide +kernel : decode cX11_init 153 = .ok (.if_icmp .ge 22, 3)) (by decide) (show (if (12 : Int32) ≤ 12 then (some () : Option Unit) else none) = some () by decide +kernel) (fun _ _ => ?_) (fun _ h => nomatch h)
  obtain rfl := Option.some.inj hf
  exact r_vret hB (by decide +kernel : decode cX11_init 175 = .ok (.return_, 1))
theorem m_X11_init (l : Launch) (D : va_G) (cy : Nat → ClassId) (b : Nat) {l0 : Nat} {s z : LMm} (hf : g_X11_init l0 s = some z) : Met l yX11_init (.code yX11_init cX11_init 2 none :: GW) rmX11_init (Pw D cy b [.ref (b + l0)] (mkM s)) (Qw D cy b none (mkM z)) rmX11_init.cells rmX11_init.slots (fun q => b ≤ q) :=
  met_of (by decide) (Nat.le_of_ble_eq_true rfl) (fun X hB _ => t_X11_init hB hf)
def g_X12_init (l0 : Nat) (s : LMm) : Option LMm :=
  (nA1 s 15 686).bind fun x5 =>
  (pR1 x5.2 12 l0 0 x5.1).bind fun m6 =>
  (nA1 m6 15 4116).bind fun x9 =>
  (pR1 x9.2 12 l0 1 x9.1).bind fun m10 =>
  (nA1 m10 13 160).bind fun x13 =>
  (pR1 x13.2 12 l0 3 x13.1).bind fun m14 =>
  (nA1 m14 15 686).bind fun x17 =>
  (pR1 x17.2 12 l0 10 x17.1).bind fun m18 =>
  (nA1 m18 15 80).bind fun x21 =>
  (pR1 x21.2 12 l0 11 x21.1).bind fun m22 =>
  (nA1 m22 15 400).bind fun x25 =>
  (pR1 x25.2 12 l0 13 x25.1).bind fun m26 =>
  (nA1 m26 15 200).bind fun x29 =>
  (pR1 x29.2 12 l0 15 x29.1).bind fun m30 =>
  (nA1 m30 15 200).bind fun x33 =>
  (pR1 x33.2 12 l0 17 x33.1).bind fun m34 =>
  (nA1 m34 15 200).bind fun x37 =>
  (pR1 x37.2 12 l0 18 x37.1).bind fun m38 =>
  (nA1 m38 15 200).bind fun x41 =>
  (pR1 x41.2 12 l0 19 x41.1).bind fun m42 =>
  (nA1 m42 15 200).bind fun x45 =>
  (pR1 x45.2 12 l0 20 x45.1).bind fun m46 =>
  (nA1 m46 17 2720).bind fun x49 =>
  (pR1 x49.2 12 l0 23 x49.1).bind fun m50 =>
  (nA1 m50 15 17).bind fun x53 =>
  (pR1 x53.2 12 l0 24 x53.1).bind fun m54 =>
  (nA1 m54 15 17).bind fun x57 =>
  (pR1 x57.2 12 l0 25 x57.1).bind fun m58 =>
  (nA1 m58 15 90).bind fun x61 =>
  (pR1 x61.2 12 l0 29 x61.1).bind fun m62 =>
  (nA1 m62 15 200).bind fun x65 =>
  (pR1 x65.2 12 l0 32 x65.1).bind fun m66 =>
  (nA1 m66 15 200).bind fun x69 =>
  (pR1 x69.2 12 l0 35 x69.1).bind fun m70 =>
  (gR1 m70 12 l0 0).bind fun x72 =>
  (sI1 m70 15 x72 0 10000).bind fun m75 =>
  (gR1 m75 12 l0 0).bind fun x77 =>
  (sI1 m75 15 x77 1 40000).bind fun m80 =>
  (gR1 m80 12 l0 0).bind fun x82 =>
  (sI1 m80 15 x82 2 20).bind fun m85 =>
  some m85
set_option maxHeartbeats 4000000 in
set_option maxRecDepth 100000 in
theorem t_X12_init {X : BX} {D : va_G} {cy : Nat → ClassId} {b : Nat} (hB : BB X D cy b yX12_init cX12_init 1 none rmX12_init) {l0 : Nat} {s z : LMm} (hf : g_X12_init l0 s = some z) : WW X D cy b none (mkM z) 1 17 10372 0 [(0, .ref (b + l0))] [] (mkM s) := by
  unfold g_X12_init at hf
  refine r_aload_n hB 0 rfl (by decide +kernel : decode cX12_init 0 = .ok (.aload_n 0, 1)) rfl ?_
  refine r_objInit hB (own := "PulseRemoteModel") rfl k_1113 k_102 k_103 (by decide +kernel : decode cX12_init 1 = .ok (.invokespecial 1, 3)) (by decide) (Nat.le_of_ble_eq_true rfl) ?_
  refine r_aload_n hB 0 rfl (by decide +kernel : decode cX12_init 4 = .ok (.aload_n 0, 1)) rfl ?_
  refine r_sipush hB (v := 686) (by decide +kernel : decode cX12_init 5 = .ok (.sipush 686, 3)) (by decide +kernel) ?_
  refine WW.mono (kc := 16 + 1) (ks := 9686 + 686) (Nat.le_of_ble_eq_true rfl) (Nat.le_of_ble_eq_true rfl) (q_newA hB (t := 15) (at_ := .int) (Or.inr (Or.inr (Or.inl ⟨rfl, rfl⟩))) k_170 (by decide +kernel) (by decide +kernel) (Nat.le_of_ble_eq_true rfl) (by decide +kernel : decode cX12_init 8 = .ok (.newarray .int, 2)) hf (fun x5 hf => ?_))
  refine q_pR hB cf12 0 (by decide) (own := "PulseRemoteModel") rfl (Or.inl k_1115) (Or.inr ⟨rfl, rfl, rfl, k_1115⟩) (by decide +kernel) (by decide +kernel : decode cX12_init 10 = .ok (.putfield 7, 3)) hf (fun m6 hf => ?_)
  refine r_aload_n hB 0 rfl (by decide +kernel : decode cX12_init 13 = .ok (.aload_n 0, 1)) rfl ?_
  refine r_sipush hB (v := 4116) (by decide +kernel : decode cX12_init 14 = .ok (.sipush 4116, 3)) (by decide +kernel) ?_
  refine WW.mono (kc := 15 + 1) (ks := 5570 + 4116) (Nat.le_of_ble_eq_true rfl) (Nat.le_of_ble_eq_true rfl) (q_newA hB (t := 15) (at_ := .int) (Or.inr (Or.inr (Or.inl ⟨rfl, rfl⟩))) k_170 (by decide +kernel) (by decide +kernel) (Nat.le_of_ble_eq_true rfl) (by decide +kernel : decode cX12_init 17 = .ok (.newarray .int, 2)) hf (fun x9 hf => ?_))
  refine q_pR hB cf12 1 (by decide) (own := "PulseRemoteModel") rfl (Or.inl k_1116) (Or.inr ⟨rfl, rfl, rfl, k_1116⟩) (by decide +kernel) (by decide +kernel : decode cX12_init 19 = .ok (.putfield 13, 3)) hf (fun m10 hf => ?_)
  refine r_aload_n hB 0 rfl (by decide +kernel : decode cX12_init 22 = .ok (.aload_n 0, 1)) rfl ?_
  refine r_sipush hB (v := 160) (by decide +kernel : decode cX12_init 23 = .ok (.sipush 160, 3)) (by decide +kernel) ?_
  refine WW.mono (kc := 14 + 1) (ks := 5410 + 160) (Nat.le_of_ble_eq_true rfl) (Nat.le_of_ble_eq_true rfl) (q_newA hB (t := 13) (at_ := .byte) (Or.inl ⟨rfl, rfl⟩) k_850 (by decide +kernel) (by decide +kernel) (Nat.le_of_ble_eq_true rfl) (by decide +kernel : decode cX12_init 26 = .ok (.newarray .byte, 2)) hf (fun x13 hf => ?_))
  refine q_pR hB cf12 3 (by decide) (own := "PulseRemoteModel") rfl (Or.inl k_1118) (Or.inr ⟨rfl, rfl, rfl, k_1118⟩) (by decide +kernel) (by decide +kernel : decode cX12_init 28 = .ok (.putfield 16, 3)) hf (fun m14 hf => ?_)
  refine r_aload_n hB 0 rfl (by decide +kernel : decode cX12_init 31 = .ok (.aload_n 0, 1)) rfl ?_
  refine r_sipush hB (v := 686) (by decide +kernel : decode cX12_init 32 = .ok (.sipush 686, 3)) (by decide +kernel) ?_
  refine WW.mono (kc := 13 + 1) (ks := 4724 + 686) (Nat.le_of_ble_eq_true rfl) (Nat.le_of_ble_eq_true rfl) (q_newA hB (t := 15) (at_ := .int) (Or.inr (Or.inr (Or.inl ⟨rfl, rfl⟩))) k_170 (by decide +kernel) (by decide +kernel) (Nat.le_of_ble_eq_true rfl) (by decide +kernel : decode cX12_init 35 = .ok (.newarray .int, 2)) hf (fun x17 hf => ?_))
  refine q_pR hB cf12 10 (by decide) (own := "PulseRemoteModel") rfl (Or.inl k_1125) (Or.inr ⟨rfl, rfl, rfl, k_1125⟩) (by decide +kernel) (by decide +kernel : decode cX12_init 37 = .ok (.putfield 20, 3)) hf (fun m18 hf => ?_)
  refine r_aload_n hB 0 rfl (by decide +kernel : decode cX12_init 40 = .ok (.aload_n 0, 1)) rfl ?_
  refine r_bipush hB (v := 80) (by decide +kernel : decode cX12_init 41 = .ok (.bipush 80, 2)) (by decide +kernel) ?_
  refine WW.mono (kc := 12 + 1) (ks := 4644 + 80) (Nat.le_of_ble_eq_true rfl) (Nat.le_of_ble_eq_true rfl) (q_newA hB (t := 15) (at_ := .int) (Or.inr (Or.inr (Or.inl ⟨rfl, rfl⟩))) k_170 (by decide +kernel) (by decide +kernel) (Nat.le_of_ble_eq_true rfl) (by decide +kernel : decode cX12_init 43 = .ok (.newarray .int, 2)) hf (fun x21 hf => ?_))
  refine q_pR hB cf12 11 (by decide) (own := "PulseRemoteModel") rfl (Or.inl k_1126) (Or.inr ⟨rfl, rfl, rfl, k_1126⟩) (by decide +kernel) (by decide +kernel : decode cX12_init 45 = .ok (.putfield 23, 3)) hf (fun m22 hf => ?_)
  refine r_aload_n hB 0 rfl (by decide +kernel : decode cX12_init 48 = .ok (.aload_n 0, 1)) rfl ?_
  refine r_sipush hB (v := 400) (by decide +kernel : decode cX12_init 49 = .ok (.sipush 400, 3)) (by decide +kernel) ?_
  refine WW.mono (kc := 11 + 1) (ks := 4244 + 400) (Nat.le_of_ble_eq_true rfl) (Nat.le_of_ble_eq_true rfl) (q_newA hB (t := 15) (at_ := .int) (Or.inr (Or.inr (Or.inl ⟨rfl, rfl⟩))) k_170 (by decide +kernel) (by decide +kernel) (Nat.le_of_ble_eq_true rfl) (by decide +kernel : decode cX12_init 52 = .ok (.newarray .int, 2)) hf (fun x25 hf => ?_))
  refine q_pR hB cf12 13 (by decide) (own := "PulseRemoteModel") rfl (Or.inl k_1128) (Or.inr ⟨rfl, rfl, rfl, k_1128⟩) (by decide +kernel) (by decide +kernel : decode cX12_init 54 = .ok (.putfield 26, 3)) hf (fun m26 hf => ?_)
  refine r_aload_n hB 0 rfl (by decide +kernel : decode cX12_init 57 = .ok (.aload_n 0, 1)) rfl ?_
  refine r_sipush hB (v := 200) (by decide +kernel : decode cX12_init 58 = .ok (.sipush 200, 3)) (by decide +kernel) ?_
  refine WW.mono (kc := 10 + 1) (ks := 4044 + 200) (Nat.le_of_ble_eq_true rfl) (Nat.le_of_ble_eq_true rfl) (q_newA hB (t := 15) (at_ := .int) (Or.inr (Or.inr (Or.inl ⟨rfl, rfl⟩))) k_170 (by decide +kernel) (by decide +kernel) (Nat.le_of_ble_eq_true rfl) (by decide +kernel : decode cX12_init 61 = .ok (.newarray .int, 2)) hf (fun x29 hf => ?_))
  refine q_pR hB cf12 15 (by decide) (own := "PulseRemoteModel") rfl (Or.inl k_1130) (Or.inr ⟨rfl, rfl, rfl, k_1130⟩) (by decide +kernel) (by decide +kernel : decode cX12_init 63 = .ok (.putfield 29, 3)) hf (fun m30 hf => ?_)
  refine r_aload_n hB 0 rfl (by decide +kernel : decode cX12_init 66 = .ok (.aload_n 0, 1)) rfl ?_
  refine r_sipush hB (v := 200) (by decide +kernel : decode cX12_init 67 = .ok (.sipush 200, 3)) (by decide +kernel) ?_
  refine WW.mono (kc := 9 + 1) (ks := 3844 + 200) (Nat.le_of_ble_eq_true rfl) (Nat.le_of_ble_eq_true rfl) (q_newA hB (t := 15) (at_ := .int) (Or.inr (Or.inr (Or.inl ⟨rfl, rfl⟩))) k_170 (by decide +kernel) (by decide +kernel) (Nat.le_of_ble_eq_true rfl) (by decide +kernel : decode cX12_init 70 = .ok (.newarray .int, 2)) hf (fun x33 hf => ?_))
  refine q_pR hB cf12 17 (by decide) (own := "PulseRemoteModel") rfl (Or.inl k_1132) (Or.inr ⟨rfl, rfl, rfl, k_1132⟩) (by decide +kernel) (by decide +kernel : decode cX12_init 72 = .ok (.putfield 32, 3)) hf (fun m34 hf => ?_)
  refine r_aload_n hB 0 rfl (by decide +kernel : decode cX12_init 75 = .ok (.aload_n 0, 1)) rfl ?_
  refine r_sipush hB (v := 200) (by decide +kernel : decode cX12_init 76 = .ok (.sipush 200, 3)) (by decide +kernel) ?_
  refine WW.mono (kc := 8 + 1) (ks := 3644 + 200) (Nat.le_of_ble_eq_true rfl) (Nat.le_of_ble_eq_true rfl) (q_newA hB (t := 15) (at_ := .int) (Or.inr (Or.inr (Or.inl ⟨rfl, rfl⟩))) k_170 (by decide +kernel) (by decide +kernel) (Nat.le_of_ble_eq_true rfl) (by decide +kernel : decode cX12_init 79 = .ok (.newarray .int, 2)) hf (fun x37 hf => ?_))
  refine q_pR hB cf12 18 (by decide) (own := "PulseRemoteModel") rfl (Or.inl k_1133) (Or.inr ⟨rfl, rfl, rfl, k_1133⟩) (by decide +kernel) (by decide +kernel : decode cX12_init 81 = .ok (.putfield 35, 3)) hf (fun m38 hf => ?_)
  refine r_aload_n hB 0 rfl (by decide +kernel : decode cX12_init 84 = .ok (.aload_n 0, 1)) rfl ?_
  refine r_sipush hB (v := 200) (by decide +kernel : decode cX12_init 85 = .ok (.sipush 200, 3)) (by decide +kernel) ?_
  refine WW.mono (kc := 7 + 1) (ks := 3444 + 200) (Nat.le_of_ble_eq_true rfl) (Nat.le_of_ble_eq_true rfl) (q_newA hB (t := 15) (at_ := .int) (Or.inr (Or.inr (Or.inl ⟨rfl, rfl⟩))) k_170 (by decide +kernel) (by decide +kernel) (Nat.le_of_ble_eq_true rfl) (by decide +kernel : decode cX12_init 88 = .ok (.newarray .int, 2)) hf (fun x41 hf => ?_))
  refine q_pR hB cf12 19 (by decide) (own := "PulseRemoteModel") rfl (Or.inl k_1134) (Or.inr ⟨rfl, rfl, rfl, k_1134⟩) (by decide +kernel) (by decide +kernel : decode cX12_init 90 = .ok (.putfield 38, 3)) hf (fun m42 hf => ?_)
  refine r_aload_n hB 0 rfl (by decide +kernel : decode cX12_init 93 = .ok (.aload_n 0, 1)) rfl ?_
  refine r_sipush hB (v := 200) (by decide +kernel : decode cX12_init 94 = .ok (.sipush 200, 3)) (by decide +kernel) ?_
  refine WW.mono (kc := 6 + 1) (ks := 3244 + 200) (Nat.le_of_ble_eq_true rfl) (Nat.le_of_ble_eq_true rfl) (q_newA hB (t := 15) (at_ := .int) (Or.inr (Or.inr (Or.inl ⟨rfl, rfl⟩))) k_170 (by decide +kernel) (by decide +kernel) (Nat.le_of_ble_eq_true rfl) (by decide +kernel : decode cX12_init 97 = .ok (.newarray .int, 2)) hf (fun x45 hf => ?_))
  refine q_pR hB cf12 20 (by decide) (own := "PulseRemoteModel") rfl (Or.inl k_1135) (Or.inr ⟨rfl, rfl, rfl, k_1135⟩) (by decide +kernel) (by decide +kernel : decode cX12_init 99 = .ok (.putfield 41, 3)) hf (fun m46 hf => ?_)
  refine r_aload_n hB 0 rfl (by decide +kernel : decode cX12_init 102 = .ok (.aload_n 0, 1)) rfl ?_
  refine r_sipush hB (v := 2720) (by decide +kernel : decode cX12_init 103 = .ok (.sipush 2720, 3)) (by decide +kernel) ?_
  refine WW.mono (kc := 5 + 1) (ks := 524 + 2720) (Nat.le_of_ble_eq_true rfl) (Nat.le_of_ble_eq_true rfl) (q_newA hB (t := 17) (at_ := .boolean) (Or.inr (Or.inr (Or.inr (Or.inr ⟨rfl, rfl⟩)))) k_1224 (by decide +kernel) (by decide +kernel) (Nat.le_of_ble_eq_true rfl) (by decide +kernel : decode cX12_init 106 = .ok (.newarray .boolean, 2)) hf (fun x49 hf => ?_))
  refine q_pR hB cf12 23 (by decide) (own := "PulseRemoteModel") rfl (Or.inl k_1138) (Or.inr ⟨rfl, rfl, rfl, k_1138⟩) (by decide +kernel) (by decide +kernel : decode cX12_init 108 = .ok (.putfield 44, 3)) hf (fun m50 hf => ?_)
  refine r_aload_n hB 0 rfl (by decide +kernel : decode cX12_init 111 = .ok (.aload_n 0, 1)) rfl ?_
  refine r_bipush hB (v := 17) (by decide +kernel : decode cX12_init 112 = .ok (.bipush 17, 2)) (by decide +kernel) ?_
  refine WW.mono (kc := 4 + 1) (ks := 507 + 17) (Nat.le_of_ble_eq_true rfl) (Nat.le_of_ble_eq_true rfl) (q_newA hB (t := 15) (at_ := .int) (Or.inr (Or.inr (Or.inl ⟨rfl, rfl⟩))) k_170 (by decide +kernel) (by decide +kernel) (Nat.le_of_ble_eq_true rfl) (by decide +kernel : decode cX12_init 114 = .ok (.newarray .int, 2)) hf (fun x53 hf => ?_))
  refine q_pR hB cf12 24 (by decide) (own := "PulseRemoteModel") rfl (Or.inl k_1139) (Or.inr ⟨rfl, rfl, rfl, k_1139⟩) (by decide +kernel) (by decide +kernel : decode cX12_init 116 = .ok (.putfield 48, 3)) hf (fun m54 hf => ?_)
  refine r_aload_n hB 0 rfl (by decide +kernel : decode cX12_init 119 = .ok (.aload_n 0, 1)) rfl ?_
  refine r_bipush hB (v := 17) (by decide +kernel : decode cX12_init 120 = .ok (.bipush 17, 2)) (by decide +kernel) ?_
  refine WW.mono (kc := 3 + 1) (ks := 490 + 17) (Nat.le_of_ble_eq_true rfl) (Nat.le_of_ble_eq_true rfl) (q_newA hB (t := 15) (at_ := .int) (Or.inr (Or.inr (Or.inl ⟨rfl, rfl⟩))) k_170 (by decide +kernel) (by decide +kernel) (Nat.le_of_ble_eq_true rfl) (by decide +kernel : decode cX12_init 122 = .ok (.newarray .int, 2)) hf (fun x57 hf => ?_))
  refine q_pR hB cf12 25 (by decide) (own := "PulseRemoteModel") rfl (Or.inl k_1140) (Or.inr ⟨rfl, rfl, rfl, k_1140⟩) (by decide +kernel) (by decide +kernel : decode cX12_init 124 = .ok (.putfield 51, 3)) hf (fun m58 hf => ?_)
  refine r_aload_n hB 0 rfl (by decide +kernel : decode cX12_init 127 = .ok (.aload_n 0, 1)) rfl ?_
  refine r_bipush hB (v := 90) (by decide +kernel : decode cX12_init 128 = .ok (.bipush 90, 2)) (by decide +kernel) ?_
  refine WW.mono (kc := 2 + 1) (ks := 400 + 90) (Nat.le_of_ble_eq_true rfl) (Nat.le_of_ble_eq_true rfl) (q_newA hB (t := 15) (at_ := .int) (Or.inr (Or.inr (Or.inl ⟨rfl, rfl⟩))) k_170 (by decide +kernel) (by decide +kernel) (Nat.le_of_ble_eq_true rfl) (by decide +kernel : decode cX12_init 130 = .ok (.newarray .int, 2)) hf (fun x61 hf => ?_))
  refine q_pR hB cf12 29 (by decide) (own := "PulseRemoteModel") rfl (Or.inl k_1144) (Or.inr ⟨rfl, rfl, rfl, k_1144⟩) (by decide +kernel) (by decide +kernel : decode cX12_init 132 = .ok (.putfield 54, 3)) hf (fun m62 hf => ?_)
  refine r_aload_n hB 0 rfl (by decide +kernel : decode cX12_init 135 = .ok (.aload_n 0, 1)) rfl ?_
  refine r_sipush hB (v := 200) (by decide +kernel : decode cX12_init 136 = .ok (.sipush 200, 3)) (by decide +kernel) ?_
  refine WW.mono (kc := 1 + 1) (ks := 200 + 200) (Nat.le_of_ble_eq_true rfl) (Nat.le_of_ble_eq_true rfl) (q_newA hB (t := 15) (at_ := .int) (Or.inr (Or.inr (Or.inl ⟨rfl, rfl⟩))) k_170 (by decide +kernel) (by decide +kernel) (Nat.le_of_ble_eq_true rfl) (by decide +kernel : decode cX12_init 139 = .ok (.newarray .int, 2)) hf (fun x65 hf => ?_))
  refine q_pR hB cf12 32 (by decide) (own := "PulseRemoteModel") rfl (Or.inl k_1147) (Or.inr ⟨rfl, rfl, rfl, k_1147⟩) (by decide +kernel) (by decide +kernel : decode cX12_init 141 = .ok (.putfield 57, 3)) hf (fun m66 hf => ?_)
  refine r_aload_n hB 0 rfl (by decide +kernel : decode cX12_init 144 = .ok (.aload_n 0, 1)) rfl ?_
  refine r_sipush hB (v := 200) (by decide +kernel : decode cX12_init 145 = .ok (.sipush 200, 3)) (by decide +kernel) ?_
  refine WW.mono (kc := 0 + 1) (ks := 0 + 200) (Nat.le_of_ble_eq_true rfl) (Nat.le_of_ble_eq_true rfl) (q_newA hB (t := 15) (at_ := .int) (Or.inr (Or.inr (Or.inl ⟨rfl, rfl⟩))) k_170 (by decide +kernel) (by decide +kernel) (Nat.le_of_ble_eq_true rfl) (by decide +kernel : decode cX12_init 148 = .ok (.newarray .int, 2)) hf (fun x69 hf => ?_))
  refine q_pR hB cf12 35 (by decide) (own := "PulseRemoteModel") rfl (Or.inl k_1150) (Or.inr ⟨rfl, rfl, rfl, k_1150⟩) (by decide +kernel) (by decide +kernel : decode cX12_init 150 = .ok (.putfield 60, 3)) hf (fun m70 hf => ?_)
  refine r_aload_n hB 0 rfl (by decide +kernel : decode cX12_init 153 = .ok (.aload_n 0, 1)) rfl ?_
  refine q_gR hB cf12 0 (by decide) (own := "PulseRemoteModel") rfl (Or.inl k_1115) (by decide +kernel) (by decide +kernel : decode cX12_init 154 = .ok (.getfield 7, 3)) hf (fun x72 hf => ?_)
  refine r_iconst hB (v := 0) (by decide +kernel : decode cX12_init 157 = .ok (.iconst 0, 1)) (by decide +kernel) ?_
  refine r_sipush hB (v := 10000) (by decide +kernel : decode cX12_init 158 = .ok (.sipush 10000, 3)) (by decide +kernel) ?_
  refine q_iast hB (by decide +kernel : decode cX12_init 161 = .ok (.iastore, 1)) hf (fun m75 hf => ?_)
  refine r_aload_n hB 0 rfl (by decide +kernel : decode cX12_init 162 = .ok (.aload_n 0, 1)) rfl ?_
  refine q_gR hB cf12 0 (by decide) (own := "PulseRemoteModel") rfl (Or.inl k_1115) (by decide +kernel) (by decide +kernel : decode cX12_init 163 = .ok (.getfield 7, 3)) hf (fun x77 hf => ?_)
  refine r_iconst hB (v := 1) (by decide +kernel : decode cX12_init 166 = .ok (.iconst 1, 1)) (by decide +kernel) ?_
  refine r_ldc hB (v := 40000) (own := "PulseRemoteModel") rfl k_1114 (by decide +kernel : decode cX12_init 167 = .ok (.ldc 63, 2)) ?_
  refine q_iast hB (by decide +kernel : decode cX12_init 169 = .ok (.iastore, 1)) hf (fun m80 hf => ?_)
  refine r_aload_n hB 0 rfl (by decide +kernel : decode cX12_init 170 = .ok (.aload_n 0, 1)) rfl ?_
  refine q_gR hB cf12 0 (by decide) (own := "PulseRemoteModel") rfl (Or.inl k_1115) (by decide +kernel) (by decide +kernel : decode cX12_init 171 = .ok (.getfield 7, 3)) hf (fun x82 hf => ?_)
  refine r_iconst hB (v := 2) (by decide +kernel : decode cX12_init 174 = .ok (.iconst 2, 1)) (by decide +kernel) ?_
  refine r_bipush hB (v := 20) (by decide +kernel : decode cX12_init 175 = .ok (.bipush 20, 2)) (by decide +kernel) ?_
  refine q_iast hB (by decide +kernel : decode cX12_init 177 = .ok (.iastore, 1)) hf (fun m85 hf => ?_)
  obtain rfl := Option.some.inj hf
  exact r_vret hB (by decide +kernel : decode cX12_init 178 = .ok (.return_, 1))
theorem m_X12_init (l : Launch) (D : va_G) (cy : Nat → ClassId) (b : Nat) {l0 : Nat} {s z : LMm} (hf : g_X12_init l0 s = some z) : Met l yX12_init (.code yX12_init cX12_init 1 none :: GW) rmX12_init (Pw D cy b [.ref (b + l0)] (mkM s)) (Qw D cy b none (mkM z)) rmX12_init.cells rmX12_init.slots (fun q => b ≤ q) :=
  met_of (by decide) (Nat.le_of_ble_eq_true rfl) (fun X hB _ => t_X12_init hB hf)
