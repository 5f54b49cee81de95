/-! THE LAW: what the start gives, and the walk from the entry. -/
theorem k_96 : Cond.classLink "PulseRemoteLaw" 7 "PulseRemote" ∈ GW := gw_of (List.mem_of_getElem? (i := 96) (by decide +kernel)) rfl
theorem k_97 : Cond.instantiable "PulseRemote" 12 ∈ GW := gw_of (List.mem_of_getElem? (i := 97) (by decide +kernel)) rfl
theorem k_98 : Cond.methodLink "PulseRemoteLaw" 9 ⟨"PulseRemote", "<init>", "()V"⟩ ∈ GW := gw_of (List.mem_of_getElem? (i := 98) (by decide +kernel)) rfl
theorem k_1108 : Cond.classLink "PulseRemoteLaw" 10 "PulseRemoteModel" ∈ GW := gw_of (List.mem_of_getElem? (i := 1108) (by decide +kernel)) rfl
theorem k_1109 : Cond.instantiable "PulseRemoteModel" 36 ∈ GW := gw_of (List.mem_of_getElem? (i := 1109) (by decide +kernel)) rfl
theorem k_1110 : Cond.methodLink "PulseRemoteLaw" 12 ⟨"PulseRemoteModel", "<init>", "()V"⟩ ∈ GW := gw_of (List.mem_of_getElem? (i := 1110) (by decide +kernel)) rfl
set_option maxHeartbeats 4000000 in
set_option maxRecDepth 100000 in
theorem law_start {X : BX} {D : va_G} {cy : Nat → ClassId} {b sa L : Nat} {sv : Nat → Int32} (hL : LW X D cy b sa L sv) : ∃ μ', WW X D cy b (some (.int 1)) μ' 4 207 19635 0 [(0, .ref sa)] [] (mkM ([], [], [])) := by
  obtain ⟨s1, s2, g1, g2, g3, g4, g5⟩ := ini_ok
  obtain ⟨hM, hJ⟩ := chk_M g5
  obtain ⟨μ', hW⟩ := law_loop hL L 0 p00 (z00 s2) l00 (by omega) (by omega) hJ
  rw [← hM] at hW
  obtain ⟨hB, hX, hsa, hb, hL⟩ := id hL
  refine ⟨μ', ?_⟩
  refine WW.mono (kc := 206 + 1) (ks := 19623 + 12) (Nat.le_of_ble_eq_true rfl) (Nat.le_of_ble_eq_true rfl) (q_new (K := some) (R := (0, ([(11, 0)], [], []))) hB cf11 (by decide) (own := "PulseRemoteLaw") rfl k_96 k_97 k_77 (by decide +kernel : decode code 0 = .ok (.new 7, 3)) rfl (fun q hq => ?_))
  rw [Option.some.inj hq]
  refine r_dup hB (by decide +kernel : decode code 3 = .ok (.dup, 1)) rfl ?_
  refine WW.mono (kc := 18 + rmX11_init.cells) (ks := 10408 + rmX11_init.slots) (Nat.le_of_ble_eq_true rfl) (Nat.le_of_ble_eq_true rfl) (q_cI (F := some s1) (K := some) (R := s1) hB [] [.ref (b + 0)] (own := "PulseRemoteLaw") rfl cmX11_init hiX11_init rfl (Or.inl k_98) (by decide) rfl (Nat.le_of_ble_eq_true rfl) (by decide +kernel : decode code 4 = .ok (.invokespecial 9, 3)) (fun z hz => m_X11_init _ _ _ _ (by rw [g1]; exact hz)) rfl rfl (fun z hz => ?_))
  rw [Option.some.inj hz]
  refine r_astore_n hB (lv' := [(1, .ref (b + 0)), (0, .ref sa)]) (by decide +kernel : decode code 7 = .ok (.astore_n 1, 1)) rfl (by decide) rfl ?_
  refine WW.mono (kc := 17 + 1) (ks := 10372 + 36) (Nat.le_of_ble_eq_true rfl) (Nat.le_of_ble_eq_true rfl) (q_new (K := some) (R := (s1.1.length, (s1.1 ++ [(12, 0)], s1.2))) hB cf12 (by decide) (own := "PulseRemoteLaw") rfl k_1108 k_1109 k_89 (by decide +kernel : decode code 8 = .ok (.new 10, 3)) (by unfold nO1; rw [if_pos g2]; rfl) (fun q hq => ?_))
  rw [Option.some.inj hq]
  show WW X D cy b (some (.int 1)) μ' 4 17 10372 11 _ (.ref (b + s1.1.length) :: _) _
  rw [g3]
  refine r_dup hB (by decide +kernel : decode code 11 = .ok (.dup, 1)) rfl ?_
  refine WW.mono (kc := 0 + rmX12_init.cells) (ks := 0 + rmX12_init.slots) (Nat.le_of_ble_eq_true rfl) (Nat.le_of_ble_eq_true rfl) (q_cI (F := some s2) (K := some) (R := s2) hB [] [.ref (b + 189)] (own := "PulseRemoteLaw") rfl cmX12_init hiX12_init rfl (Or.inl k_1110) (by decide) rfl (Nat.le_of_ble_eq_true rfl) (by decide +kernel : decode code 12 = .ok (.invokespecial 12, 3)) (fun z hz => m_X12_init _ _ _ _ (by rw [g4]; exact hz)) rfl rfl (fun z hz => ?_))
  rw [Option.some.inj hz]
  refine r_astore_n hB (lv' := [(2, .ref (b + 189)), (1, .ref (b + 0)), (0, .ref sa)]) (by decide +kernel : decode code 15 = .ok (.astore_n 2, 1)) rfl (by decide) rfl ?_
  refine r_iconst hB (v := 0) (by decide +kernel : decode code 16 = .ok (.iconst 0, 1)) (by decide +kernel) ?_
  refine r_istore_n hB (lv' := [(3, .int 0), (2, .ref (b + 189)), (1, .ref (b + 0)), (0, .ref sa)]) (by decide +kernel : decode code 17 = .ok (.istore_n 3, 1)) rfl (by decide) rfl ?_
  exact WW.sub [3, 2, 1, 0] rfl hW
-- what the start gives
section Env
variable {s : State} {args : Array Value}
theorem one_K (hts : ∀ w ∈ lw_tbl, w.before args s = true) {ci : Nat} {C : String} {T : u_T} {N n : Nat} {ty : Nat → FieldType} (cf : CF ci C T N ty) (w : Cond.instantiable C n ∈ GW) : ∃ r : ClassId × (Nat → Nat), u_Kn s C T N r.1 r.2 := by
  obtain ⟨a, b, h⟩ := u_known (ws := lw_tbl) (T := T) (N := N) hts (fun w hw => (gw_good (cf.2.2.2.2.1 w hw)).1) (hts _ (gw_good w).1)
  exact ⟨(a, b), h⟩
theorem all_K (hts : ∀ w ∈ lw_tbl, w.before args s = true) (c : Nat) : ∃ r : ClassId × (Nat → Nat), ∀ q : vw_C, vwCl[c]? = some q → u_Kn s q.1 q.2.1 q.2.2 r.1 r.2 := by
  have key : ∀ {C : String} {T : u_T} {N : Nat}, vwCl[c]? = some (C, T, N) → (∃ r : ClassId × (Nat → Nat), u_Kn s C T N r.1 r.2) → ∃ r : ClassId × (Nat → Nat), ∀ q : vw_C, vwCl[c]? = some q → u_Kn s q.1 q.2.1 q.2.2 r.1 r.2 := by
    intro C T N h ⟨r, hr⟩
    refine ⟨r, fun q hq => ?_⟩
    rw [h] at hq
    obtain rfl := Option.some.inj hq
    exact hr
  by_cases hc : c < 13
  · have : c = 0 ∨ c = 1 ∨ c = 2 ∨ c = 3 ∨ c = 4 ∨ c = 5 ∨ c = 6 ∨ c = 7 ∨ c = 8 ∨ c = 9 ∨ c = 10 ∨ c = 11 ∨ c = 12 := by omega
    rcases this with rfl | rfl | rfl | rfl | rfl | rfl | rfl | rfl | rfl | rfl | rfl | rfl | rfl
    · exact key rfl (one_K hts cf0 k_361)
    · exact key rfl (one_K hts cf1 k_427)
    · exact key rfl (one_K hts cf2 k_289)
    · exact key rfl (one_K hts cf3 k_265)
    · exact key rfl (one_K hts cf4 k_355)
    · exact key rfl (one_K hts cf5 k_319)
    · exact key rfl (one_K hts cf6 k_118)
    · exact key rfl (one_K hts cf7 k_105)
    · exact key rfl (one_K hts cf8 k_111)
    · exact key rfl (one_K hts cf9 k_236)
    · exact key rfl (one_K hts cf10 k_194)
    · exact key rfl (one_K hts cf11 k_97)
    · exact key rfl (one_K hts cf12 k_1109)
  · obtain ⟨r, _⟩ := one_K hts cf11 k_97
    refine ⟨r, fun q hq => ?_⟩
    have := (List.getElem?_eq_some_iff.mp hq).1
    have h13 : vwCl.length = 13 := rfl
    omega
theorem arr_K {t : FieldType} (h : (Cond.arrayClass t).before args s = true) : ∃ cA : ClassId, ArrOfT s cA t ∧ s.vm.findClass ("[" ++ t.toString) = some cA := by
  obtain ⟨c, k, comp, h1, h2, h3⟩ := Cond.arrayClass_spec h
  exact ⟨c, fun n z => ⟨fun k h => (by cases h), k, h2, comp, h3⟩, h1⟩
theorem arr_R {C : String} (h : (Cond.arrayOver (.object C)).before args s = true) : ∃ cA : ClassId, ArrOfT s cA (.object C) ∧ va_RA s cA (.object C) := by
  obtain ⟨comp, c, k, h1, h2, h3, h4, h5⟩ := Cond.arrayOver_spec h
  exact ⟨c, fun n z => ⟨fun k h => (by cases h), k, h3, comp, h4⟩, k, comp, h3, h4, h1, h5⟩
theorem w_117 : Cond.arrayOver (.object "PulseRemote$Protocol") ∈ lw_tbl := List.mem_of_getElem? (i := 117) (by decide +kernel)
theorem w_192 : Cond.arrayOver (.object "PulseRemote$Train") ∈ lw_tbl := List.mem_of_getElem? (i := 192) (by decide +kernel)
theorem w_234 : Cond.arrayOver (.object "PulseRemote$State") ∈ lw_tbl := List.mem_of_getElem? (i := 234) (by decide +kernel)
theorem env_K (hts : ∀ w ∈ lw_tbl, w.before args s = true) : ∃ (D : va_G) (cy : Nat → ClassId), va_K D vwCl (tyA cy) s := by
  obtain ⟨f, hf⟩ := Classical.axiomOfChoice (all_K hts)
  obtain ⟨c13, a13, b13⟩ := arr_K (t := .byte) (hts _ (gw_good k_850).1)
  obtain ⟨c14, a14, b14⟩ := arr_K (t := .char) (hts _ (gw_good k_259).1)
  obtain ⟨c15, a15, b15⟩ := arr_K (t := .int) (hts _ (gw_good k_170).1)
  obtain ⟨c16, a16, b16⟩ := arr_K (t := .long) (hts _ (gw_good k_317).1)
  obtain ⟨c17, a17, b17⟩ := arr_K (t := .boolean) (hts _ (gw_good k_1224).1)
  obtain ⟨c18, a18, b18⟩ := arr_R (C := RX6) (hts _ w_117)
  obtain ⟨c19, a19, b19⟩ := arr_R (C := RX7) (hts _ w_234)
  obtain ⟨c20, a20, b20⟩ := arr_R (C := RX10) (hts _ w_192)
  refine ⟨(fun c => (f c).1, fun c => (f c).2), fun t => if t = 13 then c13 else if t = 14 then c14 else if t = 15 then c15 else if t = 16 then c16 else if t = 17 then c17 else if t = 18 then c18 else if t = 19 then c19 else c20, fun c q hq => hf c q hq, fun k q hq => ?_⟩
  match k, hq with
  | 0, hq => obtain rfl := Option.some.inj hq; exact ⟨a13, b13⟩
  | 1, hq => obtain rfl := Option.some.inj hq; exact ⟨a14, b14⟩
  | 2, hq => obtain rfl := Option.some.inj hq; exact ⟨a15, b15⟩
  | 3, hq => obtain rfl := Option.some.inj hq; exact ⟨a16, b16⟩
  | 4, hq => obtain rfl := Option.some.inj hq; exact ⟨a17, b17⟩
  | 5, hq => obtain rfl := Option.some.inj hq; exact ⟨a18, b18⟩
  | 6, hq => obtain rfl := Option.some.inj hq; exact ⟨a19, b19⟩
  | 7, hq => obtain rfl := Option.some.inj hq; exact ⟨a20, b20⟩
  | k + 8, hq => simp at hq
theorem w_769 : Cond.stringRef "PulseRemote$Text" 37 "proto" ∈ lw_tbl := List.mem_of_getElem? (i := 769) (by decide +kernel)
theorem w_840 : Cond.stringRef "PulseRemote$Text" 50 "button" ∈ lw_tbl := List.mem_of_getElem? (i := 840) (by decide +kernel)
theorem w_783 : Cond.laysStatic "java/lang/String" "COMPACT_STRINGS" "Z" ∈ lw_tbl := List.mem_of_getElem? (i := 783) (by decide +kernel)
theorem w_799 : Cond.laysStatic "jdk/internal/util/Preconditions" "SIOOBE_FORMATTER" "Ljava/util/function/BiFunction;" ∈ lw_tbl := List.mem_of_getElem? (i := 799) (by decide +kernel)
theorem w_92 : Cond.initialized "java/lang/String" ∈ lw_tbl := List.mem_of_getElem? (i := 92) (by decide +kernel)
theorem w_94 : Cond.initialized "jdk/internal/util/Preconditions" ∈ lw_tbl := List.mem_of_getElem? (i := 94) (by decide +kernel)
abbrev tmW : Nat → Term := fun i => if i = 0 then .string "PulseRemote$Text" 37 else .string "PulseRemote$Text" 50
set_option maxHeartbeats 4000000 in
theorem env_S (hts : ∀ w ∈ lw_tbl, w.before args s = true) (hgv : (Jvm.Cond.and given_1 narrow_1).before args s = true) : SW s.heap.size s := by
  have hs := flat_of_before _ hgv
  have hA : ∀ a : Nat, a < s.heap.size → ¬ (fun q => s.heap.size ≤ q) a := fun a ha => by show ¬ s.heap.size ≤ a; omega
  have two : ∀ {P : Nat → Prop}, P 0 → P 1 → ∀ i, i < 2 → P i := fun h0 h1 i hi => by
    have : i = 0 ∨ i = 1 := by omega
    rcases this with rfl | rfl
    · exact h0
    · exact h1
  obtain ⟨adK, adV, h1, h2⟩ := vk_Sof (s := s) (args := args) (N := 2) (tm := tmW) (len := [5, 6]) (byt := [[112, 114, 111, 116, 111], [98, 117, 116, 116, 111, 110]]) (A := fun q => s.heap.size ≤ q)
    (two (by decide) (by decide))
    (two (hs (.exactly (.string "PulseRemote$Text" 37) "java/lang/String") (by decide +kernel)) (hs (.exactly (.string "PulseRemote$Text" 50) "java/lang/String") (by decide +kernel)))
    (two (hs (.eq (.field (.string "PulseRemote$Text" 37) "java/lang/String" "coder" "B") (.int 0)) (by decide +kernel)) (hs (.eq (.field (.string "PulseRemote$Text" 50) "java/lang/String" "coder" "B") (.int 0)) (by decide +kernel)))
    (two (hs (.arrayOf (.field (.string "PulseRemote$Text" 37) "java/lang/String" "value" "[B") .byte) (by decide +kernel)) (hs (.arrayOf (.field (.string "PulseRemote$Text" 50) "java/lang/String" "value" "[B") .byte) (by decide +kernel)))
    (two (hs (.eq (.length (.field (.string "PulseRemote$Text" 37) "java/lang/String" "value" "[B")) (.int 5)) (by decide +kernel)) (hs (.eq (.length (.field (.string "PulseRemote$Text" 50) "java/lang/String" "value" "[B")) (.int 6)) (by decide +kernel)))
    (two (fun j hj => by
      have hj : j < 5 := hj
      have : j = 0 ∨ j = 1 ∨ j = 2 ∨ j = 3 ∨ j = 4 := by omega
      rcases this with rfl | rfl | rfl | rfl | rfl
      · exact hs (.eq (.elem (.field (.string "PulseRemote$Text" 37) "java/lang/String" "value" "[B") (.int 0)) (.int 112)) (by decide +kernel)
      · exact hs (.eq (.elem (.field (.string "PulseRemote$Text" 37) "java/lang/String" "value" "[B") (.int 1)) (.int 114)) (by decide +kernel)
      · exact hs (.eq (.elem (.field (.string "PulseRemote$Text" 37) "java/lang/String" "value" "[B") (.int 2)) (.int 111)) (by decide +kernel)
      · exact hs (.eq (.elem (.field (.string "PulseRemote$Text" 37) "java/lang/String" "value" "[B") (.int 3)) (.int 116)) (by decide +kernel)
      · exact hs (.eq (.elem (.field (.string "PulseRemote$Text" 37) "java/lang/String" "value" "[B") (.int 4)) (.int 111)) (by decide +kernel)) (fun j hj => by
      have hj : j < 6 := hj
      have : j = 0 ∨ j = 1 ∨ j = 2 ∨ j = 3 ∨ j = 4 ∨ j = 5 := by omega
      rcases this with rfl | rfl | rfl | rfl | rfl | rfl
      · exact hs (.eq (.elem (.field (.string "PulseRemote$Text" 50) "java/lang/String" "value" "[B") (.int 0)) (.int 98)) (by decide +kernel)
      · exact hs (.eq (.elem (.field (.string "PulseRemote$Text" 50) "java/lang/String" "value" "[B") (.int 1)) (.int 117)) (by decide +kernel)
      · exact hs (.eq (.elem (.field (.string "PulseRemote$Text" 50) "java/lang/String" "value" "[B") (.int 2)) (.int 116)) (by decide +kernel)
      · exact hs (.eq (.elem (.field (.string "PulseRemote$Text" 50) "java/lang/String" "value" "[B") (.int 3)) (.int 116)) (by decide +kernel)
      · exact hs (.eq (.elem (.field (.string "PulseRemote$Text" 50) "java/lang/String" "value" "[B") (.int 4)) (.int 111)) (by decide +kernel)
      · exact hs (.eq (.elem (.field (.string "PulseRemote$Text" 50) "java/lang/String" "value" "[B") (.int 5)) (.int 110)) (by decide +kernel)))
    (fun i j hi hj hij => by
      have h0 := hs (.not (.eq (.string "PulseRemote$Text" 37) (.string "PulseRemote$Text" 50))) (by decide +kernel)
      have : (i = 0 ∧ j = 1) ∨ (i = 1 ∧ j = 0) := by omega
      rcases this with ⟨rfl, rfl⟩ | ⟨rfl, rfl⟩
      · exact Or.inl h0
      · exact Or.inr h0)
    hA
  refine ⟨⟨adK, adV, h1, vk_R.of (hts _ w_769) (h2 0 (by decide)), vk_R.of (hts _ w_840) (h2 1 (by decide))⟩, ?_, ?_⟩
  · exact va_Zof (hts _ w_783) (hts _ w_92) (va_eqt (hs (.eq (.static "java/lang/String" "COMPACT_STRINGS" "Z") (.int 1)) (by decide +kernel))) hA
  · exact va_Zqof (hts _ w_799) (hts _ w_94) (hs (.isRef (.static "jdk/internal/util/Preconditions" "SIOOBE_FORMATTER" "Ljava/util/function/BiFunction;")) (by decide +kernel)) hA
theorem nest_on {w : Cond} (h : isNest w = true) : w.onTables = true := by cases w <;> first | rfl | (simp [isNest] at h)
theorem env_N (hts : ∀ w ∈ lw_tbl, w.before args s = true) (hgv : (Jvm.Cond.and given_1 narrow_1).before args s = true) : NW s.heap.size s :=
  ⟨fun w hw hn => va_Nw.of (nest_on hn) (hts w hw), ⟨va_AO.of (hts _ w_117), va_AO.of (hts _ w_234), va_AO.of (hts _ w_192)⟩, env_S hts hgv⟩
end Env
theorem drop_L {s s' : State} {L : List Loc} {k n : Nat} (h : s.sameButNew s' L k n) (hJ : ∀ x ∈ L, s.heap.size ≤ x.base) : s.sameButNew s' [] k n := by
  obtain ⟨h1, h2, h3, h4, h5, h6⟩ := h
  refine ⟨h1, h2, h3, h4, h5, fun a c hc => ?_⟩
  obtain ⟨c', hc', hce, hsz, hout⟩ := h6 a c hc
  refine ⟨c', hc', hce, hsz, fun i _ => hout i (fun hmem => ?_)⟩
  have hb : s.heap.size ≤ a := hJ _ hmem
  have ha : a < s.heap.size := (Array.getElem?_eq_some_iff.mp hc).1
  exact absurd ha (Nat.not_lt.mpr hb)
