/-! TEXTS OF THE SYSTEM: a text's cell, and the JDK's methods that read it. -/
theorem k_774 : Cond.methodLink "PulseRemote$Text" 110 ⟨"java/lang/String", "length", "()I"⟩ ∈ GW := gw_of (List.mem_of_getElem? (i := 774) (by decide +kernel)) rfl
theorem k_775 : Cond.instanceMethod yJ0_length_8abf5 ∈ GW := gw_of (List.mem_of_getElem? (i := 775) (by decide +kernel)) rfl
theorem k_776 : Cond.selects "java/lang/String" yJ0_length_8abf5 yJ0_length_8abf5 ∈ GW := gw_of (List.mem_of_getElem? (i := 776) (by decide +kernel)) rfl
theorem k_777 : Cond.code yJ0_length_8abf5 cJ0_length_8abf5 1 (some .int) ∈ GW := gw_of (List.mem_of_getElem? (i := 777) (by decide +kernel)) rfl
theorem k_778 : Cond.methodLink "java/lang/String" 335 yJ0_coder_7d493 ∈ GW := gw_of (List.mem_of_getElem? (i := 778) (by decide +kernel)) rfl
theorem k_779 : Cond.instanceMethod yJ0_coder_7d493 ∈ GW := gw_of (List.mem_of_getElem? (i := 779) (by decide +kernel)) rfl
theorem k_780 : Cond.selects "java/lang/String" yJ0_coder_7d493 yJ0_coder_7d493 ∈ GW := gw_of (List.mem_of_getElem? (i := 780) (by decide +kernel)) rfl
theorem k_781 : Cond.code yJ0_coder_7d493 cJ0_coder_7d493 1 (some .byte) ∈ GW := gw_of (List.mem_of_getElem? (i := 781) (by decide +kernel)) rfl
theorem k_782 : Cond.fieldLink "java/lang/String" 38 "java/lang/String" "COMPACT_STRINGS" "Z" ∈ GW := gw_of (List.mem_of_getElem? (i := 782) (by decide +kernel)) rfl
theorem k_784 : Cond.methodLink "PulseRemote$Text" 116 yJ0_charAt_5068e ∈ GW := gw_of (List.mem_of_getElem? (i := 784) (by decide +kernel)) rfl
theorem k_785 : Cond.instanceMethod yJ0_charAt_5068e ∈ GW := gw_of (List.mem_of_getElem? (i := 785) (by decide +kernel)) rfl
theorem k_786 : Cond.selects "java/lang/String" yJ0_charAt_5068e yJ0_charAt_5068e ∈ GW := gw_of (List.mem_of_getElem? (i := 786) (by decide +kernel)) rfl
theorem k_787 : Cond.code yJ0_charAt_5068e cJ0_charAt_5068e 2 (some .char) ∈ GW := gw_of (List.mem_of_getElem? (i := 787) (by decide +kernel)) rfl
theorem k_788 : Cond.methodLink "java/lang/String" 492 yJ0_isLatin1_aae02 ∈ GW := gw_of (List.mem_of_getElem? (i := 788) (by decide +kernel)) rfl
theorem k_789 : Cond.instanceMethod yJ0_isLatin1_aae02 ∈ GW := gw_of (List.mem_of_getElem? (i := 789) (by decide +kernel)) rfl
theorem k_790 : Cond.selects "java/lang/String" yJ0_isLatin1_aae02 yJ0_isLatin1_aae02 ∈ GW := gw_of (List.mem_of_getElem? (i := 790) (by decide +kernel)) rfl
theorem k_791 : Cond.code yJ0_isLatin1_aae02 cJ0_isLatin1_aae02 1 (some .boolean) ∈ GW := gw_of (List.mem_of_getElem? (i := 791) (by decide +kernel)) rfl
theorem k_792 : Cond.methodLink "java/lang/String" 495 yJ1_charAt_3b067 ∈ GW := gw_of (List.mem_of_getElem? (i := 792) (by decide +kernel)) rfl
theorem k_793 : Cond.static yJ1_charAt_3b067 ∈ GW := gw_of (List.mem_of_getElem? (i := 793) (by decide +kernel)) rfl
theorem k_794 : Cond.code yJ1_charAt_3b067 cJ1_charAt_3b067 2 (some .char) ∈ GW := gw_of (List.mem_of_getElem? (i := 794) (by decide +kernel)) rfl
theorem k_795 : Cond.methodLink "java/lang/StringLatin1" 9 yJ0_checkIndex_df160 ∈ GW := gw_of (List.mem_of_getElem? (i := 795) (by decide +kernel)) rfl
theorem k_796 : Cond.static yJ0_checkIndex_df160 ∈ GW := gw_of (List.mem_of_getElem? (i := 796) (by decide +kernel)) rfl
theorem k_797 : Cond.code yJ0_checkIndex_df160 cJ0_checkIndex_df160 2 none ∈ GW := gw_of (List.mem_of_getElem? (i := 797) (by decide +kernel)) rfl
theorem k_798 : Cond.fieldLink "java/lang/String" 1053 "jdk/internal/util/Preconditions" "SIOOBE_FORMATTER" "Ljava/util/function/BiFunction;" ∈ GW := gw_of (List.mem_of_getElem? (i := 798) (by decide +kernel)) rfl
theorem k_800 : Cond.methodLink "java/lang/String" 1059 yJ3_checkIndex_8e157 ∈ GW := gw_of (List.mem_of_getElem? (i := 800) (by decide +kernel)) rfl
theorem k_801 : Cond.static yJ3_checkIndex_8e157 ∈ GW := gw_of (List.mem_of_getElem? (i := 801) (by decide +kernel)) rfl
theorem k_802 : Cond.code yJ3_checkIndex_8e157 cJ3_checkIndex_8e157 3 (some .int) ∈ GW := gw_of (List.mem_of_getElem? (i := 802) (by decide +kernel)) rfl
theorem k_92 : Cond.initialized "java/lang/String" ∈ GW := gw_of (List.mem_of_getElem? (i := 92) (by decide +kernel)) rfl
theorem k_93 : Cond.initialized "java/lang/StringLatin1" ∈ GW := gw_of (List.mem_of_getElem? (i := 93) (by decide +kernel)) rfl
theorem k_94 : Cond.initialized "jdk/internal/util/Preconditions" ∈ GW := gw_of (List.mem_of_getElem? (i := 94) (by decide +kernel)) rfl
theorem k_1553 : Cond.fieldLink "java/lang/String" 9 "java/lang/String" "value" "[B" ∈ GW := gw_of (List.mem_of_getElem? (i := 1553) (by decide +kernel)) rfl
theorem k_1554 : Cond.fieldLink "java/lang/String" 15 "java/lang/String" "coder" "B" ∈ GW := gw_of (List.mem_of_getElem? (i := 1554) (by decide +kernel)) rfl
theorem cmJ_len : CM yJ0_length_8abf5 cJ0_length_8abf5 1 (some .int) 0 := ⟨k_777, k_92, by decide +kernel⟩
theorem imJ_len : IM yJ0_length_8abf5 := ⟨k_775, k_776⟩
theorem cmJ_cod : CM yJ0_coder_7d493 cJ0_coder_7d493 1 (some .byte) 0 := ⟨k_781, k_92, by decide +kernel⟩
theorem imJ_cod : IM yJ0_coder_7d493 := ⟨k_779, k_780⟩
theorem cmJ_chA : CM yJ0_charAt_5068e cJ0_charAt_5068e 2 (some .char) 1 := ⟨k_787, k_92, by decide +kernel⟩
theorem imJ_chA : IM yJ0_charAt_5068e := ⟨k_785, k_786⟩
theorem cmJ_lat : CM yJ0_isLatin1_aae02 cJ0_isLatin1_aae02 1 (some .boolean) 0 := ⟨k_791, k_92, by decide +kernel⟩
theorem imJ_lat : IM yJ0_isLatin1_aae02 := ⟨k_789, k_790⟩
theorem cmJ_chL : CM yJ1_charAt_3b067 cJ1_charAt_3b067 2 (some .char) 2 := ⟨k_794, k_93, by decide +kernel⟩
theorem cmJ_ck : CM yJ0_checkIndex_df160 cJ0_checkIndex_df160 2 none 2 := ⟨k_797, k_92, by decide +kernel⟩
theorem cmJ_pck : CM yJ3_checkIndex_8e157 cJ3_checkIndex_8e157 3 (some .int) 3 := ⟨k_802, k_94, by decide +kernel⟩
def rmJ_0 : Room := { frames := 0, cells := 0, slots := 0, locals := 0 }
def rmJ_len : Room := { frames := 1, cells := 0, slots := 0, locals := 24 }
def rmJ_ck : Room := { frames := 1, cells := 0, slots := 0, locals := 24 }
def rmJ_chL : Room := { frames := 2, cells := 0, slots := 0, locals := 48 }
def rmJ_chA : Room := { frames := 3, cells := 0, slots := 0, locals := 72 }
/-- a text of the system: at a, its bytes w at v -/
def StrX (b a v : Nat) (w : List Int32) (U : State) : Prop := va_O "java/lang/String" a (fun q => b ≤ q) U U.heap ∧ va_OF "java/lang/String" "coder" "B" (.int 0) a (fun q => b ≤ q) U U.heap ∧ va_OF "java/lang/String" "value" "[B" (.ref v) a (fun q => b ≤ q) U U.heap ∧ va_T .byte v w.length (fun j => .int (w.getD j 0)) (fun q => b ≤ q) U U.heap
theorem StrX.warm {b a v : Nat} {w : List Int32} {s U : State} (hW : s.WarmedH U.vm) (hq : ∀ a : Nat, a < s.heap.size → ¬ b ≤ a → U.heap[a]? = s.heap[a]?) (h : StrX b a v w s) : StrX b a v w U :=
  ⟨(va_O.moved hW.alike h.1).kept hq, (va_OF.moved hW.alike h.2.1).kept hq, (va_OF.moved hW.alike h.2.2.1).kept hq, (va_T.moved hW.alike h.2.2.2).kept hq⟩
/-- a method's start, with a text -/
def Pw2 (D : va_G) (cy : Nat → ClassId) (b : Nat) (av : List Value) (μ : MS) (a v : Nat) (w : List Int32) : Array Value → State → Prop :=
  va_Pc av (fun U => Wd D cy b μ U.heap ∧ va_K D vwCl (tyA cy) U ∧ NW b U ∧ StrX b a v w U)
theorem Pw2.blind {D : va_G} {cy : Nat → ClassId} {b : Nat} {av : List Value} {μ : MS} {t v : Nat} {w : List Int32} : FrameBlind (Pw2 D cy b av μ t v w) := by
  intro a U g mk h
  obtain ⟨h1, h2, h3, h4, h5⟩ := h
  exact ⟨h1, h2, va_K.moved (u := U) (U := U.calling g mk a) (Vm.Alike.refl U.vm) h3, NW.same (u := U) (U := U.calling g mk a) rfl rfl h4, va_O.moved (u := U) (U := U.calling g mk a) (Vm.Alike.refl U.vm) h5.1, va_OF.moved (u := U) (U := U.calling g mk a) (Vm.Alike.refl U.vm) h5.2.1, va_OF.moved (u := U) (U := U.calling g mk a) (Vm.Alike.refl U.vm) h5.2.2.1, va_T.moved (u := U) (U := U.calling g mk a) (Vm.Alike.refl U.vm) h5.2.2.2⟩
section Str
variable {X : BX} {D : va_G} {cy : Nat → ClassId} {b : Nat} {y : MethodName} {cc : ByteArray} {nL : Nat} {ret : Option FieldType} {rm : Room} {r : Option Value} {μ μ' : MS} {kc ks pc : Nat} {lv : List (Nat × Value)} {st : List Value} {t v : Nat} {w : List Int32}
theorem met_of2 {l : Launch} {av : List Value} (hy : plainName y.cls = true) (hn : (lg_sl av).length ≤ nL)
    (body : ∀ X : BX, BB X D cy b y cc nL ret rm → StrX b t v w (xs X) → xl X = l → WW X D cy b r μ' nL rm.cells rm.slots 0 (lv_args 0 av) [] μ) : Met l y (.code y cc nL ret :: GW) rm (Pw2 D cy b av μ t v w) (Qw D cy b r μ') rm.cells rm.slots (fun q => b ≤ q) := by
  refine Met.ofW (cc := cc) (maxL := nL) (ret := ret) hy rfl ?_
  intro p e s m args below meth c s₁ B hml hv
  obtain ⟨rfl, hW, hK, hN, hT⟩ := hv
  have hts := atoms_spec (ws := .code y cc nL ret :: GW) B.pre
  have hb := body (p, l, e, rm, s, m, av.toArray, below, meth, c) ⟨B.exec, B.bytes, hml, findClass_of_methodNamed B.named, fun w hw => hts w (List.mem_cons_of_mem _ hw), B.notSynchronized, B.returns, hK, hN, by have h0 := hW.1; show b ≤ s.heap.size; omega, rfl, (name_of_methodNamed B.named B.method).1⟩ hT rfl
  have hl := lv_entry av hn
  rw [lg_entry_eq]
  exact hb s.heap [] _ 0 0 (by show 0 + rm.cells ≤ rm.cells; omega) (by show 0 + rm.slots ≤ rm.slots; omega) hW va_S.rf hl
theorem pre_w2 (hB : BB X D cy b y cc nL ret rm) (hT : StrX b t v w (xs X)) {av : List Value} {H : Heap} {locs : List Loc} (hW : Wd D cy b μ H) (hS : va_S (fun q => b ≤ q) (xs X).heap H locs) : ∀ U : State, U.heap = H → (xs X).WarmedH U.vm → Pw2 D cy b av μ t v w av.toArray U :=
  fun U hU hw => ⟨rfl, by rw [hU]; exact hW, va_K.moved hw.alike hB.2.2.2.2.2.2.2.1, NW.warm hw (fun a h1 h2 => by rw [hU]; exact hS.2.1 a h1 h2) hB.2.2.2.2.2.2.2.2.1, StrX.warm hw (fun a h1 h2 => by rw [hU]; exact hS.2.1 a h1 h2) hT⟩
-- rows
theorem r_gCS (hB : BB X D cy b y cc nL ret rm) (ho : y.cls = "java/lang/String") (hd : decode cc pc = .ok (.getstatic 38, 3)) (k : WW X D cy b r μ' nL kc ks (pc + 3) lv (.int 1 :: st) μ) : WW X D cy b r μ' nL kc ks pc lv st μ :=
  fun H locs ls cells slots g1 g2 hW hS hl => va_gets (own := "java/lang/String") hB.1 hB.2.1 hB.2.2.2.2.2.2.2.2.1.2.2.2.1 hS (by rw [← ho]; exact hB.2.2.2.1) (hB.2.2.2.2.1 _ k_782) (fun _ h => h) hd (k H locs ls cells slots g1 g2 hW hS hl)
theorem r_gSF (hB : BB X D cy b y cc nL ret rm) (ho : y.cls = "java/lang/String") (hd : decode cc pc = .ok (.getstatic 1053, 3)) (k : ∀ x : Value, (x = .null ∨ ∃ q : Nat, x = .ref q) → WW X D cy b r μ' nL kc ks (pc + 3) lv (x :: st) μ) : WW X D cy b r μ' nL kc ks pc lv st μ := by
  intro H locs ls cells slots g1 g2 hW hS hl
  rcases hB.2.2.2.2.2.2.2.2.1.2.2.2.2 with hZ | ⟨q, hZ⟩
  · exact va_gets (own := "java/lang/String") hB.1 hB.2.1 hZ hS (by rw [← ho]; exact hB.2.2.2.1) (hB.2.2.2.2.1 _ k_798) (fun _ h => h) hd (k _ (Or.inl rfl) H locs ls cells slots g1 g2 hW hS hl)
  · exact va_gets (own := "java/lang/String") hB.1 hB.2.1 hZ hS (by rw [← ho]; exact hB.2.2.2.1) (hB.2.2.2.2.1 _ k_798) (fun _ h => h) hd (k _ (Or.inr ⟨q, rfl⟩) H locs ls cells slots g1 g2 hW hS hl)
theorem r_sVal (hB : BB X D cy b y cc nL ret rm) (hT : StrX b t v w (xs X)) (ho : y.cls = "java/lang/String") (hd : decode cc pc = .ok (.getfield 9, 3)) (k : WW X D cy b r μ' nL kc ks (pc + 3) lv (.ref v :: st) μ) : WW X D cy b r μ' nL kc ks pc lv (.ref t :: st) μ :=
  fun H locs ls cells slots g1 g2 hW hS hl => vk_getf (own := "java/lang/String") hB.1 hB.2.1 hT.2.2.1 hS (by rw [← ho]; exact hB.2.2.2.1) (hB.2.2.2.2.1 _ k_1553) (fun _ h => h) hd (k H locs ls cells slots g1 g2 hW hS hl)
theorem r_sCod (hB : BB X D cy b y cc nL ret rm) (hT : StrX b t v w (xs X)) (ho : y.cls = "java/lang/String") (hd : decode cc pc = .ok (.getfield 15, 3)) (k : WW X D cy b r μ' nL kc ks (pc + 3) lv (.int 0 :: st) μ) : WW X D cy b r μ' nL kc ks pc lv (.ref t :: st) μ :=
  fun H locs ls cells slots g1 g2 hW hS hl => vk_getf (own := "java/lang/String") hB.1 hB.2.1 hT.2.1 hS (by rw [← ho]; exact hB.2.2.2.1) (hB.2.2.2.2.1 _ k_1554) (fun _ h => h) hd (k H locs ls cells slots g1 g2 hW hS hl)
theorem r_sLen (hB : BB X D cy b y cc nL ret rm) (hT : StrX b t v w (xs X)) (hd : decode cc pc = .ok (.arraylength, 1)) (k : WW X D cy b r μ' nL kc ks (pc + 1) lv (.int (Int32.ofNat w.length) :: st) μ) : WW X D cy b r μ' nL kc ks pc lv (.ref v :: st) μ :=
  fun H locs ls cells slots g1 g2 hW hS hl => va_tlen hB.1 hB.2.1 hT.2.2.2 hS rfl hd (k H locs ls cells slots g1 g2 hW hS hl)
theorem r_sByt (hB : BB X D cy b y cc nL ret rm) (hT : StrX b t v w (xs X)) {i : Int32} (hin : vp_in i w.length) (hd : decode cc pc = .ok (.baload, 1)) (k : WW X D cy b r μ' nL kc ks (pc + 1) lv (.int (w.getD i.toNatClampNeg 0) :: st) μ) : WW X D cy b r μ' nL kc ks pc lv (.int i :: .ref v :: st) μ :=
  fun H locs ls cells slots g1 g2 hW hS hl => va_tb hB.1 hB.2.1 hT.2.2.2 hS hin rfl hd (k H locs ls cells slots g1 g2 hW hS hl)
theorem r_bret (hB : BB X D cy b y cc nL (some .byte) rm) (hd : decode cc pc = .ok (.ireturn, 1)) : WW X D cy b (some (.int 0)) μ nL kc ks pc lv [.int 0] μ := by
  intro H locs ls cells slots g1 g2 hW hS hl
  refine W.widen (k := (xR X).cells) (n := (xR X).slots) (by omega) (by omega) ?_
  exact W.zret hB.1 hB.2.1 hB.2.2.2.2.2.2.1 rfl (fun t ht hw => ⟨rfl, by rw [ht]; exact hW, hS.F ht⟩) hS.2.2 hd hB.2.2.2.2.2.1
/-- a call on a text -/
theorem callT0 (hB : BB X D cy b y cc nL ret rm) (hT : StrX b t v w (xs X)) {y' : MethodName} {cc' : ByteArray} {nL' n : Nat} {ret' : Option FieldType} {rm' : Room} {idx : Nat} {own : String} {As rest : List Value} {rv : Option Value} {μ1 : MS} {st0 st1 : List Value}
    (hc : y'.cls = "java/lang/String") (ho : y.cls = own) (cm : CM y' cc' nL' ret' n) (im : IM y') (lk : Cond.methodLink own idx y' ∈ GW) (hroom : rm'.frames + 1 ≤ rm.frames ∧ 8 + (nL' + 11) + rm'.locals ≤ rm.locals) (hn : As.length = n) (hrest : (rest.map fun v => v.category).sum ≤ 8)
    (hd : decode cc pc = .ok (.invokevirtual idx, 3)) (hM : Met (xl X) y' (.code y' cc' nL' ret' :: GW) rm' (Pw2 D cy b (.ref t :: As) μ t v w) (Qw D cy b rv μ1) rm'.cells rm'.slots (fun q => b ≤ q)) (hst0 : st0 = As.reverse ++ .ref t :: rest) (hst1 : st1 = rv.toList ++ rest)
    (k : WW X D cy b r μ' nL kc ks (pc + 3) lv st1 μ1) : WW X D cy b r μ' nL (kc + rm'.cells) (ks + rm'.slots) pc lv st0 μ := by
  subst ho
  subst hst0
  intro H locs ls cells slots g1 g2 hW hS hl
  have hts := hB.2.2.2.2.1
  have hR : xR X = rm := hB.2.2.2.2.2.2.2.2.2.2.1
  have hrecv : ∃ cell : Cell, H[t]? = some cell ∧ cell.vm.isStatics = false ∧ (xs X).vm.findClass y'.cls = some cell.cls := by
    obtain ⟨cell, h1, h2, h3, -⟩ := hT.1.kept hS.2.1
    exact ⟨cell, h1, h2, by rw [hc]; exact h3⟩
  have S : CallFix (xp X) (xm X) (xc X) cc nL (xs X) (xa X) GW y.cls := ⟨hB.1, hB.2.1, hB.2.2.1, hB.2.2.2.1, hts⟩
  have hPV : PreV (xs X) H y'.cls t (Pw2 D cy b (.ref t :: As) μ t v w) As := ⟨Pw2.blind, hrecv, pre_w2 hB hT hW hS⟩
  refine call_end hB (a := (.ref t :: As : List Value).toArray) hst1 k g1 g2 hS hl ?_
  have hT2 : GoodIn GW (wsV y.cls idx y'.cls y' (.code y' cc' nL' ret' :: GW)) := gw_in (fun w hw => by
    simp only [wsV, List.mem_append, List.mem_cons, List.not_mem_nil, or_false] at hw
    rcases hw with (rfl | rfl | rfl | rfl) | rfl | h
    · exact lk
    · exact im.1
    · exact im.2
    · exact cm.2.1
    · exact cm.1
    · exact h)
  exact va_runV S hM (cwV n hts hT2 rfl rfl rfl ⟨rfl, cm.2.2.1, cm.2.2.2.1, cm.2.2.2.2⟩ (by rw [hR]; exact hroom)) hPV rfl hn hl.1 rfl (by show 2 * 0 + _ ≤ 8; omega) hd ⟨by omega, by omega⟩
/-- a static method of another class -/
theorem callO0 (hB : BB X D cy b y cc nL ret rm) {P : Array Value → State → Prop} {y' : MethodName} {cc' : ByteArray} {nL' n : Nat} {ret' : Option FieldType} {rm' : Room} {idx : Nat} {own : String} {As rest : List Value} {rv : Option Value} {μ1 : MS} {st0 st1 : List Value}
    (hP : FrameBlind P) (hP2 : ∀ (H : Heap) (locs : List Loc), Wd D cy b μ H → va_S (fun q => b ≤ q) (xs X).heap H locs → ∀ U : State, U.heap = H → (xs X).WarmedH U.vm → P As.toArray U)
    (ho : y.cls = own) (cm : CM y' cc' nL' ret' n) (sm : Cond.static y' ∈ GW) (lk : Cond.methodLink own idx y' ∈ GW) (hroom : rm'.frames + 1 ≤ rm.frames ∧ 8 + (nL' + 11) + rm'.locals ≤ rm.locals) (hn : As.length = n) (hrest : (rest.map fun v => v.category).sum ≤ 8)
    (hd : decode cc pc = .ok (.invokestatic idx, 3)) (hM : Met (xl X) y' (.code y' cc' nL' ret' :: GW) rm' P (Qw D cy b rv μ1) rm'.cells rm'.slots (fun q => b ≤ q)) (hst0 : st0 = As.reverse ++ rest) (hst1 : st1 = rv.toList ++ rest)
    (k : WW X D cy b r μ' nL kc ks (pc + 3) lv st1 μ1) : WW X D cy b r μ' nL (kc + rm'.cells) (ks + rm'.slots) pc lv st0 μ := by
  subst ho
  subst hst0
  intro H locs ls cells slots g1 g2 hW hS hl
  have hts := hB.2.2.2.2.1
  have hR : xR X = rm := hB.2.2.2.2.2.2.2.2.2.2.1
  have S : CallFix (xp X) (xm X) (xc X) cc nL (xs X) (xa X) GW y.cls := ⟨hB.1, hB.2.1, hB.2.2.1, hB.2.2.2.1, hts⟩
  have hPS : PreS (xs X) H P As := ⟨hP, hP2 H locs hW hS⟩
  refine call_end hB (a := As.toArray) hst1 k g1 g2 hS hl ?_
  have hT2 : GoodIn GW (va_wsS y.cls idx y' (.code y' cc' nL' ret' :: GW)) := gw_in (fun w hw => by
    simp only [va_wsS, List.mem_append, List.mem_cons, List.not_mem_nil, or_false] at hw
    rcases hw with (rfl | rfl | rfl) | rfl | h
    · exact lk
    · exact sm
    · exact cm.2.1
    · exact cm.1
    · exact h)
  exact va_runS S hM (va_cwS n hts hT2 rfl rfl rfl cm.2.2 (by rw [hR]; exact hroom)) hPS rfl hn hl.1 rfl (by show 2 * 0 + _ ≤ 8; omega) hd ⟨by omega, by omega⟩
end Str
