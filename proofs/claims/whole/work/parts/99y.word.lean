/-! Text.isWord, Text.readItem: the machine does what the functions say. -/
theorem k_770 : Cond.methodLink "PulseRemote$Text" 39 yX9_isWord ∈ GW := gw_of (List.mem_of_getElem? (i := 770) (by decide +kernel)) rfl
theorem k_822 : Cond.methodLink "PulseRemote$Text" 43 yX8_protocolsFull ∈ GW := gw_of (List.mem_of_getElem? (i := 822) (by decide +kernel)) rfl
theorem k_823 : Cond.methodLink "PulseRemote$Text" 47 yX9_readProtocol ∈ GW := gw_of (List.mem_of_getElem? (i := 823) (by decide +kernel)) rfl
theorem k_841 : Cond.methodLink "PulseRemote$Text" 52 yX8_buttonsFull ∈ GW := gw_of (List.mem_of_getElem? (i := 841) (by decide +kernel)) rfl
theorem k_842 : Cond.methodLink "PulseRemote$Text" 55 yX9_readButton ∈ GW := gw_of (List.mem_of_getElem? (i := 842) (by decide +kernel)) rfl
section Word
variable {X : BX} {D : va_G} {cy : Nat → ClassId} {b : Nat} {y : MethodName} {cc : ByteArray} {nL : Nat} {ret : Option FieldType} {rm : Room} {r : Option Value} {μ μ' : MS} {kc ks pc : Nat} {lv : List (Nat × Value)} {st : List Value} {t v : Nat} {w : List Int32}
/-- a call on an object, with a text -/
theorem callV2 (hB : BB X D cy b y cc nL ret rm) (hT : StrX b t v w (xs X)) {y' : MethodName} {cc' : ByteArray} {nL' n : Nat} {ret' : Option FieldType} {rm' : Room} {ci idx : Nat} {own : String} {T : u_T} {N : Nat} {ty : Nat → FieldType} {a : Nat} {As rest : List Value} {rv : Option Value} {μ1 : MS} {st0 st1 : List Value}
    (cf : CF ci y'.cls T N ty) (ho : y.cls = own) (cm : CM y' cc' nL' ret' n) (im : IM y') (lk : Cond.methodLink own idx y' ∈ GW) (hroom : rm'.frames + 1 ≤ rm.frames ∧ 8 + (nL' + 11) + rm'.locals ≤ rm.locals) (hn : As.length = n) (hrest : (rest.map fun v => v.category).sum ≤ 8)
    (hd : decode cc pc = .ok (.invokevirtual idx, 3)) (hM : Met (xl X) y' (.code y' cc' nL' ret' :: GW) rm' (Pw2 D cy b (.ref (b + a) :: As) μ t v w) (Qw D cy b rv μ1) rm'.cells rm'.slots (fun q => b ≤ q)) (ha : μ.1[a]? = some (ci, 0)) (hst0 : st0 = As.reverse ++ .ref (b + a) :: rest) (hst1 : st1 = rv.toList ++ rest)
    (k : WW X D cy b r μ' nL kc ks (pc + 3) lv st1 μ1) : WW X D cy b r μ' nL (kc + rm'.cells) (ks + rm'.slots) pc lv st0 μ := by
  subst ho
  subst hst0
  intro H locs ls cells slots g1 g2 hW hS hl
  have hts := hB.2.2.2.2.1
  have hK := hB.2.2.2.2.2.2.2.1
  have hR : xR X = rm := hB.2.2.2.2.2.2.2.2.2.2.1
  have hat := hW.2 a _ ha
  rw [me_obj cf.2.1] at hat
  have hrecv := va_recv hK (va_P1 hat) cf.1 (q0 := 0) rfl
  have S : CallFix (xp X) (xm X) (xc X) cc nL (xs X) (xa X) GW y.cls := ⟨hB.1, hB.2.1, hB.2.2.1, hB.2.2.2.1, hts⟩
  have hPV : PreV (xs X) H y'.cls (b + a) (Pw2 D cy b (.ref (b + a) :: As) μ t v w) As := ⟨Pw2.blind, hrecv, pre_w2 hB hT hW hS⟩
  refine call_end hB (a := (.ref (b + a) :: As : List Value).toArray) hst1 k g1 g2 hS hl ?_
  have hT2 : GoodIn GW (wsV y.cls idx y'.cls y' (.code y' cc' nL' ret' :: GW)) := gw_in (fun w hw => by
    simp only [wsV, List.mem_append, List.mem_cons, List.not_mem_nil, or_false] at hw
    rcases hw with (rfl | rfl | rfl | rfl) | rfl | h
    · exact lk
    · exact im.1
    · exact im.2
    · exact cm.2.1
    · exact cm.1
    · exact h)
  exact va_runV S hM (cwV n hts hT2 rfl rfl rfl ⟨rfl, cm.2.2.1, cm.2.2.2.1, cm.2.2.2.2⟩ (by rw [hR]; exact hroom)) hPV rfl hn hl.1 rfl (by show 2 * 0 + _ ≤ 8; omega) hd ⟨by omega, by omega⟩
set_option maxHeartbeats 4000000 in
theorem t_word_28 (hB : BB X D cy b yX9_isWord cX9_isWord 3 (some .boolean) rmX9_isWord) (hT : StrX b t v w (xs X)) (hw : okW w) {l0 : Nat} (s : Nat × List Int32 × Int32 × MS) (z : (Nat × List Int32 × Int32 × MS) ⊕ (Int32 × MS)) (hf : f_X9_isWord_28_b s.1 s.2.1 s.2.2.1 s.2.2.2 = some z)
    (hk : Sum.elim (fun s : Nat × List Int32 × Int32 × MS => s.1 = l0 → s.2.1 = w → WW X D cy b r μ' 3 0 0 28 [(0, .ref (b + l0)), (1, .ref t), (2, .int s.2.2.1)] [] s.2.2.2) (fun z : Int32 × MS => r = some (.int z.1) ∧ μ' = z.2) z) (h1 : s.1 = l0) (h2 : s.2.1 = w) : WW X D cy b r μ' 3 0 0 28 [(0, .ref (b + l0)), (1, .ref t), (2, .int s.2.2.1)] [] s.2.2.2 := by
  obtain ⟨a0, a1, a2, μ⟩ := s
  simp only at h1 h2 hf ⊢
  subst h1 h2
  have h100 := hw.1.2
  unfold f_X9_isWord_28_b at hf
  refine r_iload_n hB 2 rfl (by decide +kernel : decode cX9_isWord 28 = .ok (.iload_n 2, 1)) rfl ?_
  refine r_aload_n hB 1 rfl (by decide +kernel : decode cX9_isWord 29 = .ok (.aload_n 1, 1)) rfl ?_
  refine callT0 (kc := 0) (ks := 0) (rm' := rmJ_len) (As := []) (rest := [.int a2]) (rv := some (.int (Int32.ofNat a1.length))) (μ1 := μ) hB hT rfl (own := "PulseRemote$Text") rfl cmJ_len imJ_len k_774 (by decide) rfl (Nat.le_of_ble_eq_true rfl) (by decide +kernel : decode cX9_isWord 30 = .ok (.invokevirtual 110, 3)) (m_len _ D cy b hw) rfl rfl ?_
  refine r_icmp_ge hB (tgt := 62) (by decide +kernel : decode cX9_isWord 33 = .ok (.if_icmp .ge 29, 3)) (by decide) hf (fun _ hf => ?_) (fun _ hf => ?_)
  · obtain rfl := Option.some.inj hf
    obtain ⟨rfl, rfl⟩ := hk
    refine r_iconst hB (v := 1) (by decide +kernel : decode cX9_isWord 62 = .ok (.iconst 1, 1)) (by decide +kernel) ?_
    exact r_zret hB (Or.inr rfl) (by decide +kernel : decode cX9_isWord 63 = .ok (.ireturn, 1))
  · refine r_aload_n hB 0 rfl (by decide +kernel : decode cX9_isWord 36 = .ok (.aload_n 0, 1)) rfl ?_
    refine r_aload_n hB 0 rfl (by decide +kernel : decode cX9_isWord 37 = .ok (.aload_n 0, 1)) rfl ?_
    refine r_gI hB cf9 3 (by decide) (own := "PulseRemote$Text") rfl (Or.inl k_245) (by decide +kernel) (by decide +kernel : decode cX9_isWord 38 = .ok (.getfield 99, 3)) hf (fun x38 hf => ?_)
    refine r_iload_n hB 2 rfl (by decide +kernel : decode cX9_isWord 41 = .ok (.iload_n 2, 1)) rfl ?_
    refine r_iadd hB (by decide +kernel : decode cX9_isWord 42 = .ok (.iadd, 1)) ?_
    refine r_cVi hB [.int (x38 + a2)] [] cf9 (own := "PulseRemote$Text") rfl cmX9_at imX9_at (Or.inl k_757) (by decide) rfl rfl rfl (Nat.le_of_ble_eq_true rfl) (by decide +kernel : decode cX9_isWord 43 = .ok (.invokevirtual 102, 3)) (fun z hz => m_X9_at _ _ _ _ hz) rfl hf (fun z43 hf => ?_)
    obtain ⟨x48, hx, hf⟩ := bind_inv hf
    unfold wat at hx
    split at hx
    case isFalse => cases hx
    rename_i hc
    obtain ⟨hc0, hc1⟩ := hc
    obtain ⟨k, hk31, hk2⟩ := nI_of (Int32.not_lt.mpr hc0)
    have hx := Option.some.inj hx
    rw [hk2, nI_clamp hk31] at hc1 hx
    refine r_aload_n hB 1 rfl (by decide +kernel : decode cX9_isWord 46 = .ok (.aload_n 1, 1)) rfl ?_
    refine r_iload_n hB 2 rfl (by decide +kernel : decode cX9_isWord 47 = .ok (.iload_n 2, 1)) rfl ?_
    refine callT0 (kc := 0) (ks := 0) (rm' := rmJ_chA) (As := [.int (nI k)]) (rest := [.int z43.1]) (rv := some (.int x48)) (μ1 := z43.2) hB hT rfl (own := "PulseRemote$Text") rfl cmJ_chA imJ_chA k_784 (by decide) rfl (Nat.le_of_ble_eq_true rfl) (by decide +kernel : decode cX9_isWord 48 = .ok (.invokevirtual 116, 3)) (by rw [← hx]; exact m_chA _ D cy b hw hc1) (by rw [hk2]; rfl) rfl ?_
    refine r_icmp_eq hB (tgt := 56) (by decide +kernel : decode cX9_isWord 51 = .ok (.if_icmp .eq 5, 3)) (by decide) hf (fun _ hf => ?_) (fun _ hf => ?_)
    · refine r_iincB hB 2 rfl (by decide +kernel : decode cX9_isWord 56 = .ok (.iinc 2 1, 3)) (w := 1) (by decide +kernel) (by decide) hf (fun v56 hf => ?_)
      refine ww_lv (lv' := [(2, .int v56), (0, .ref (b + a0)), (1, .ref t)]) rfl ?_
      refine r_goto hB (tgt := 28) (by decide +kernel : decode cX9_isWord 59 = .ok (.goto (-31), 3)) (by decide) ?_
      obtain rfl := Option.some.inj hf
      exact WW.sub [1, 2, 0] rfl (hk rfl rfl)
    · refine r_iconst hB (v := 0) (by decide +kernel : decode cX9_isWord 54 = .ok (.iconst 0, 1)) (by decide +kernel) ?_
      obtain rfl := Option.some.inj hf
      obtain ⟨rfl, rfl⟩ := hk
      exact r_zret hB (Or.inl rfl) (by decide +kernel : decode cX9_isWord 55 = .ok (.ireturn, 1))
set_option maxHeartbeats 4000000 in
theorem t_word (hB : BB X D cy b yX9_isWord cX9_isWord 3 (some .boolean) rmX9_isWord) (hT : StrX b t v w (xs X)) (hw : okW w) {l0 : Nat} {z : Int32 × MS} (hf : f_X9_isWord l0 w μ = some z) : WW X D cy b (some (.int z.1)) z.2 3 0 0 0 [(0, .ref (b + l0)), (1, .ref t)] [] μ := by
  unfold f_X9_isWord at hf
  have no : ∀ (μ1 : MS) (lv : List (Nat × Value)), some ((0 : Int32), μ1) = some z → WW X D cy b (some (.int z.1)) z.2 3 0 0 24 lv [] μ1 := by
    intro μ1 lv hf
    obtain rfl := Option.some.inj hf
    refine r_iconst hB (v := 0) (by decide +kernel : decode cX9_isWord 24 = .ok (.iconst 0, 1)) (by decide +kernel) ?_
    exact r_zret hB (Or.inl rfl) (by decide +kernel : decode cX9_isWord 25 = .ok (.ireturn, 1))
  refine r_aload_n hB 0 rfl (by decide +kernel : decode cX9_isWord 0 = .ok (.aload_n 0, 1)) rfl ?_
  refine r_gI hB cf9 2 (by decide) (own := "PulseRemote$Text") rfl (Or.inl k_244) (by decide +kernel) (by decide +kernel : decode cX9_isWord 1 = .ok (.getfield 30, 3)) hf (fun x1 hf => ?_)
  refine r_iconst hB (v := 1) (by decide +kernel : decode cX9_isWord 4 = .ok (.iconst 1, 1)) (by decide +kernel) ?_
  refine r_icmp_ne hB (tgt := 24) (by decide +kernel : decode cX9_isWord 5 = .ok (.if_icmp .ne 19, 3)) (by decide) hf (fun _ hf => ?_) (fun _ hf => no _ _ hf)
  refine r_aload_n hB 0 rfl (by decide +kernel : decode cX9_isWord 8 = .ok (.aload_n 0, 1)) rfl ?_
  refine r_gI hB cf9 4 (by decide) (own := "PulseRemote$Text") rfl (Or.inl k_247) (by decide +kernel) (by decide +kernel : decode cX9_isWord 9 = .ok (.getfield 19, 3)) hf (fun x9 hf => ?_)
  refine r_aload_n hB 0 rfl (by decide +kernel : decode cX9_isWord 12 = .ok (.aload_n 0, 1)) rfl ?_
  refine r_gI hB cf9 3 (by decide) (own := "PulseRemote$Text") rfl (Or.inl k_245) (by decide +kernel) (by decide +kernel : decode cX9_isWord 13 = .ok (.getfield 99, 3)) hf (fun x13 hf => ?_)
  refine r_isub hB (by decide +kernel : decode cX9_isWord 16 = .ok (.isub, 1)) ?_
  refine r_aload_n hB 1 rfl (by decide +kernel : decode cX9_isWord 17 = .ok (.aload_n 1, 1)) rfl ?_
  refine callT0 (kc := 0) (ks := 0) (rm' := rmJ_len) (As := []) (rest := [.int (x9 - x13)]) (rv := some (.int (Int32.ofNat w.length))) (μ1 := μ) hB hT rfl (own := "PulseRemote$Text") rfl cmJ_len imJ_len k_774 (by decide) rfl (Nat.le_of_ble_eq_true rfl) (by decide +kernel : decode cX9_isWord 18 = .ok (.invokevirtual 110, 3)) (m_len _ D cy b hw) rfl rfl ?_
  refine r_icmp_eq hB (tgt := 26) (by decide +kernel : decode cX9_isWord 21 = .ok (.if_icmp .eq 5, 3)) (by decide) hf (fun _ hf => ?_) (fun _ hf => no _ _ hf)
  refine r_iconst hB (v := 0) (by decide +kernel : decode cX9_isWord 26 = .ok (.iconst 0, 1)) (by decide +kernel) ?_
  refine r_istore_n hB (by decide +kernel : decode cX9_isWord 27 = .ok (.istore_n 2, 1)) rfl (by decide) rfl ?_
  refine ww_lv (lv' := [(2, .int 0), (0, .ref (b + l0)), (1, .ref t)]) rfl ?_
  refine WW.sub [1, 2, 0] rfl ?_
  unfold f_X9_isWord_28 at hf
  exact lp_ind (P := fun s : Nat × List Int32 × Int32 × MS => s.1 = l0 → s.2.1 = w → WW X D cy b (some (.int z.1)) z.2 3 0 0 28 [(0, .ref (b + l0)), (1, .ref t), (2, .int s.2.2.1)] [] s.2.2.2) (Q := fun q : Int32 × MS => some (Value.int z.1) = some (.int q.1) ∧ z.2 = q.2) (fun s q hq hk => t_word_28 hB hT hw s q hq hk) (l0, w, 0, μ) z hf ⟨rfl, rfl⟩ rfl rfl
theorem m_X9_isWord (l : Launch) (D : va_G) (cy : Nat → ClassId) (b : Nat) (hw : okW w) {l0 : Nat} {μ : MS} {z : Int32 × MS} (hf : f_X9_isWord l0 w μ = some z) : Met l yX9_isWord (.code yX9_isWord cX9_isWord 3 (some .boolean) :: GW) rmX9_isWord (Pw2 D cy b [.ref (b + l0), .ref t] μ t v w) (Qw D cy b (some (.int z.1)) (z.2)) rmX9_isWord.cells rmX9_isWord.slots (fun q => b ≤ q) :=
  met_of2 (by decide) (Nat.le_of_ble_eq_true rfl) (fun X hB hT _ => t_word hB hT hw hf)
theorem r_ldcS (hB : BB X D cy b y cc nL ret rm) {own tx : String} {idx q : Nat} (ho : y.cls = own) (hZ : vk_R own idx tx q (xs X)) (hd : decode cc pc = .ok (.ldc idx, 2)) (k : WW X D cy b r μ' nL kc ks (pc + 2) lv (.ref q :: st) μ) : WW X D cy b r μ' nL kc ks pc lv st μ := by
  subst ho
  exact fun H locs ls cells slots g1 g2 hW hS hl => va_ldcS hB.1 hB.2.1 hB.2.2.2.1 hZ hd (k H locs ls cells slots g1 g2 hW hS hl)
theorem okW_p : okW [112, 114, 111, 116, 111] := by unfold okW; decide +kernel
theorem okW_b : okW [98, 117, 116, 116, 111, 110] := by unfold okW; decide +kernel
end Word
set_option maxHeartbeats 4000000 in
set_option maxRecDepth 100000 in
theorem n_X9_readItem (l : Launch) (D : va_G) (cy : Nat → ClassId) (b : Nat) {l0 : Nat} {l1 : Nat} {μ : MS} {z : Int32 × MS} (hf : f_X9_readItem l0 l1 μ = some z) : Met l yX9_readItem (.code yX9_readItem cX9_readItem 2 (some .boolean) :: GW) rmX9_readItem (Pw D cy b [.ref (b + l0), .ref (b + l1)] μ) (Qw D cy b (some (.int z.1)) (z.2)) rmX9_readItem.cells rmX9_readItem.slots (fun q => b ≤ q) := by
  refine met_of (by decide) (Nat.le_of_ble_eq_true rfl) (fun X hB _ => ?_)
  show WW X D cy b (some (.int z.1)) z.2 2 0 0 0 [(0, .ref (b + l0)), (1, .ref (b + l1))] [] μ
  obtain ⟨adK, adV, h1, h2, h3⟩ := hB.2.2.2.2.2.2.2.2.1.2.2.1
  have T0 : StrX b (adK 0) (adV 0) [112, 114, 111, 116, 111] (xs X) := h1.1 0 (by decide)
  have T1 : StrX b (adK 1) (adV 1) [98, 117, 116, 116, 111, 110] (xs X) := h1.1 1 (by decide)
  unfold f_X9_readItem at hf
  refine r_aload_n hB 0 rfl (by decide +kernel : decode cX9_readItem 0 = .ok (.aload_n 0, 1)) rfl ?_
  refine r_ldcS hB rfl h2 (by decide +kernel : decode cX9_readItem 1 = .ok (.ldc 37, 2)) ?_
  obtain ⟨z3, hz3, hf⟩ := bind_inv hf
  obtain ⟨ha0, hz3⟩ := isO_some hz3
  refine callV2 (kc := 0) (ks := 0) (rm' := rmX9_isWord) (As := [.ref (adK 0)]) (rest := []) (rv := some (.int z3.1)) (μ1 := z3.2) hB T0 cf9 (own := "PulseRemote$Text") rfl cmX9_isWord imX9_isWord k_770 (by decide) rfl (Nat.le_of_ble_eq_true rfl) (by decide +kernel : decode cX9_readItem 3 = .ok (.invokevirtual 39, 3)) (m_X9_isWord _ D cy b okW_p hz3) ha0 rfl rfl ?_
  refine r_if_eq hB (tgt := 30) (by decide +kernel : decode cX9_readItem 6 = .ok (.ifCond .eq 24, 3)) (by decide) hf (fun _ hf => ?_) (fun _ hf => ?_)
  · refine r_aload_n hB 0 rfl (by decide +kernel : decode cX9_readItem 30 = .ok (.aload_n 0, 1)) rfl ?_
    refine r_ldcS hB rfl h3 (by decide +kernel : decode cX9_readItem 31 = .ok (.ldc 50, 2)) ?_
    obtain ⟨z33, hz33, hf⟩ := bind_inv hf
    obtain ⟨ha1, hz33⟩ := isO_some hz33
    refine callV2 (kc := 0) (ks := 0) (rm' := rmX9_isWord) (As := [.ref (adK 1)]) (rest := []) (rv := some (.int z33.1)) (μ1 := z33.2) hB T1 cf9 (own := "PulseRemote$Text") rfl cmX9_isWord imX9_isWord k_770 (by decide) rfl (Nat.le_of_ble_eq_true rfl) (by decide +kernel : decode cX9_readItem 33 = .ok (.invokevirtual 39, 3)) (m_X9_isWord _ D cy b okW_b hz33) ha1 rfl rfl ?_
    refine r_if_eq hB (tgt := 60) (by decide +kernel : decode cX9_readItem 36 = .ok (.ifCond .eq 24, 3)) (by decide) hf (fun _ hf => ?_) (fun _ hf => ?_)
    · obtain rfl := Option.some.inj hf
      refine r_iconst hB (v := 0) (by decide +kernel : decode cX9_readItem 60 = .ok (.iconst 0, 1)) (by decide +kernel) ?_
      exact r_zret hB (Or.inl rfl) (by decide +kernel : decode cX9_readItem 61 = .ok (.ireturn, 1))
    · have no : ∀ (μ1 : MS), some ((0 : Int32), μ1) = some z → WW X D cy b (some (.int z.1)) z.2 2 0 0 58 [(0, .ref (b + l0)), (1, .ref (b + l1))] [] μ1 := by
        intro μ1 hf
        obtain rfl := Option.some.inj hf
        refine r_iconst hB (v := 0) (by decide +kernel : decode cX9_readItem 58 = .ok (.iconst 0, 1)) (by decide +kernel) ?_
        exact r_zret hB (Or.inl rfl) (by decide +kernel : decode cX9_readItem 59 = .ok (.ireturn, 1))
      refine r_aload_n hB 1 rfl (by decide +kernel : decode cX9_readItem 39 = .ok (.aload_n 1, 1)) rfl ?_
      refine r_cVi hB [] [] cf8 (own := "PulseRemote$Text") rfl cmX8_buttonsFull imX8_buttonsFull (Or.inl k_841) (by decide) rfl rfl rfl (Nat.le_of_ble_eq_true rfl) (by decide +kernel : decode cX9_readItem 40 = .ok (.invokevirtual 52, 3)) (fun z hz => m_X8_buttonsFull _ _ _ _ hz) rfl hf (fun z40 hf => ?_)
      refine r_if_ne hB (tgt := 58) (by decide +kernel : decode cX9_readItem 43 = .ok (.ifCond .ne 15, 3)) (by decide) hf (fun _ hf => ?_) (fun _ hf => no _ hf)
      refine r_aload_n hB 0 rfl (by decide +kernel : decode cX9_readItem 46 = .ok (.aload_n 0, 1)) rfl ?_
      refine r_aload_n hB 1 rfl (by decide +kernel : decode cX9_readItem 47 = .ok (.aload_n 1, 1)) rfl ?_
      refine r_cVi hB [.ref (b + l1)] [] cf9 (own := "PulseRemote$Text") rfl cmX9_readButton imX9_readButton (Or.inl k_842) (by decide) rfl rfl rfl (Nat.le_of_ble_eq_true rfl) (by decide +kernel : decode cX9_readItem 48 = .ok (.invokevirtual 55, 3)) (fun z hz => m_X9_readButton _ _ _ _ hz) rfl hf (fun z48 hf => ?_)
      refine r_if_eq hB (tgt := 58) (by decide +kernel : decode cX9_readItem 51 = .ok (.ifCond .eq 7, 3)) (by decide) hf (fun _ hf => no _ hf) (fun _ hf => ?_)
      obtain rfl := Option.some.inj hf
      refine r_iconst hB (v := 1) (by decide +kernel : decode cX9_readItem 54 = .ok (.iconst 1, 1)) (by decide +kernel) ?_
      refine r_goto hB (tgt := 59) (by decide +kernel : decode cX9_readItem 55 = .ok (.goto 4, 3)) (by decide) ?_
      exact r_zret hB (Or.inr rfl) (by decide +kernel : decode cX9_readItem 59 = .ok (.ireturn, 1))
  · have no : ∀ (μ1 : MS), some ((0 : Int32), μ1) = some z → WW X D cy b (some (.int z.1)) z.2 2 0 0 28 [(0, .ref (b + l0)), (1, .ref (b + l1))] [] μ1 := by
      intro μ1 hf
      obtain rfl := Option.some.inj hf
      refine r_iconst hB (v := 0) (by decide +kernel : decode cX9_readItem 28 = .ok (.iconst 0, 1)) (by decide +kernel) ?_
      exact r_zret hB (Or.inl rfl) (by decide +kernel : decode cX9_readItem 29 = .ok (.ireturn, 1))
    refine r_aload_n hB 1 rfl (by decide +kernel : decode cX9_readItem 9 = .ok (.aload_n 1, 1)) rfl ?_
    refine r_cVi hB [] [] cf8 (own := "PulseRemote$Text") rfl cmX8_protocolsFull imX8_protocolsFull (Or.inl k_822) (by decide) rfl rfl rfl (Nat.le_of_ble_eq_true rfl) (by decide +kernel : decode cX9_readItem 10 = .ok (.invokevirtual 43, 3)) (fun z hz => m_X8_protocolsFull _ _ _ _ hz) rfl hf (fun z10 hf => ?_)
    refine r_if_ne hB (tgt := 28) (by decide +kernel : decode cX9_readItem 13 = .ok (.ifCond .ne 15, 3)) (by decide) hf (fun _ hf => ?_) (fun _ hf => no _ hf)
    refine r_aload_n hB 0 rfl (by decide +kernel : decode cX9_readItem 16 = .ok (.aload_n 0, 1)) rfl ?_
    refine r_aload_n hB 1 rfl (by decide +kernel : decode cX9_readItem 17 = .ok (.aload_n 1, 1)) rfl ?_
    refine r_cVi hB [.ref (b + l1)] [] cf9 (own := "PulseRemote$Text") rfl cmX9_readProtocol imX9_readProtocol (Or.inl k_823) (by decide) rfl rfl rfl (Nat.le_of_ble_eq_true rfl) (by decide +kernel : decode cX9_readItem 18 = .ok (.invokevirtual 47, 3)) (fun z hz => m_X9_readProtocol _ _ _ _ hz) rfl hf (fun z18 hf => ?_)
    refine r_if_eq hB (tgt := 28) (by decide +kernel : decode cX9_readItem 21 = .ok (.ifCond .eq 7, 3)) (by decide) hf (fun _ hf => no _ hf) (fun _ hf => ?_)
    obtain rfl := Option.some.inj hf
    refine r_iconst hB (v := 1) (by decide +kernel : decode cX9_readItem 24 = .ok (.iconst 1, 1)) (by decide +kernel) ?_
    refine r_goto hB (tgt := 29) (by decide +kernel : decode cX9_readItem 25 = .ok (.goto 4, 3)) (by decide) ?_
    exact r_zret hB (Or.inr rfl) (by decide +kernel : decode cX9_readItem 29 = .ok (.ireturn, 1))
