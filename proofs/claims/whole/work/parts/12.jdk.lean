/-! The JDK's methods that read a text. -/
def okW (w : List Int32) : Prop := (Int32.ofNat w.length >>> ((0 : Int32) &&& 31) = Int32.ofNat w.length ∧ w.length < 100) ∧ ∀ k, k < w.length → (w.getD k 0 &&& 255).toUInt32.toUInt16.toUInt32.toInt32 = w.getD k 0 ∧ (w.getD k 0).toUInt32.toUInt16.toUInt32.toInt32 = w.getD k 0
section Jdk
variable (l : Launch) (D : va_G) (cy : Nat → ClassId) (b : Nat) {μ : MS} {t v : Nat} {w : List Int32}
theorem m_pck {i n : Int32} {x : Value} (hx : x = .null ∨ ∃ q : Nat, x = .ref q) (h0 : ¬ i < 0) (h1 : i < n) : Met l yJ3_checkIndex_8e157 (.code yJ3_checkIndex_8e157 cJ3_checkIndex_8e157 3 (some .int) :: GW) rmJ_0 (Pw D cy b [.int i, .int n, x] μ) (Qw D cy b (some (.int i)) μ) rmJ_0.cells rmJ_0.slots (fun q => b ≤ q) := by
  refine met_of (by decide) (by rcases hx with rfl | ⟨q, rfl⟩ <;> exact Nat.le_of_ble_eq_true rfl) (fun X hB _ => ?_)
  have go : ∀ lv : List (Nat × Value), lv[0]? = some (0, .int i) → lv[1]? = some (1, .int n) → WW X D cy b (some (.int i)) μ 3 rmJ_0.cells rmJ_0.slots 0 lv [] μ := by
    intro lv e0 e1
    refine r_iload_n hB 0 e0 (by decide +kernel : decode cJ3_checkIndex_8e157 0 = .ok (.iload_n 0, 1)) rfl ?_
    refine r_if_lt (A := none) (B := some ()) (R := ()) hB (tgt := 9) (by decide +kernel : decode cJ3_checkIndex_8e157 1 = .ok (.ifCond .lt 8, 3)) (by decide) (if_neg h0) (fun h _ => absurd h h0) (fun _ _ => ?_)
    refine r_iload_n hB 0 e0 (by decide +kernel : decode cJ3_checkIndex_8e157 4 = .ok (.iload_n 0, 1)) rfl ?_
    refine r_iload_n hB 1 e1 (by decide +kernel : decode cJ3_checkIndex_8e157 5 = .ok (.iload_n 1, 1)) rfl ?_
    refine r_icmp_lt (A := some ()) (B := none) (R := ()) hB (tgt := 16) (by decide +kernel : decode cJ3_checkIndex_8e157 6 = .ok (.if_icmp .lt 10, 3)) (by decide) (if_pos h1) (fun _ _ => ?_) (fun h _ => absurd h1 h)
    refine r_iload_n hB 0 e0 (by decide +kernel : decode cJ3_checkIndex_8e157 16 = .ok (.iload_n 0, 1)) rfl ?_
    exact r_iret hB (by decide +kernel : decode cJ3_checkIndex_8e157 17 = .ok (.ireturn, 1))
  rcases hx with rfl | ⟨q, rfl⟩
  · exact go _ rfl rfl
  · exact go _ rfl rfl
theorem m_ck {i n : Int32} (h0 : ¬ i < 0) (h1 : i < n) : Met l yJ0_checkIndex_df160 (.code yJ0_checkIndex_df160 cJ0_checkIndex_df160 2 none :: GW) rmJ_ck (Pw D cy b [.int i, .int n] μ) (Qw D cy b none μ) rmJ_ck.cells rmJ_ck.slots (fun q => b ≤ q) := by
  refine met_of (by decide) (Nat.le_of_ble_eq_true rfl) (fun X hB hl => ?_)
  show WW X D cy b none μ 2 0 0 0 [(0, .int i), (1, .int n)] [] μ
  refine r_iload_n hB 0 rfl (by decide +kernel : decode cJ0_checkIndex_df160 0 = .ok (.iload_n 0, 1)) rfl ?_
  refine r_iload_n hB 1 rfl (by decide +kernel : decode cJ0_checkIndex_df160 1 = .ok (.iload_n 1, 1)) rfl ?_
  refine r_gSF hB rfl (by decide +kernel : decode cJ0_checkIndex_df160 2 = .ok (.getstatic 1053, 3)) (fun x hx => ?_)
  refine callO0 (kc := 0) (ks := 0) (rm' := rmJ_0) (P := Pw D cy b [.int i, .int n, x] μ) (As := [.int i, .int n, x]) (rest := []) (rv := some (.int i)) (μ1 := μ) hB Pw.blind (fun H locs hW hS => pre_w hB hW hS) (own := "java/lang/String") rfl cmJ_pck k_801 k_800 (by decide) rfl (Nat.le_of_ble_eq_true rfl) (by decide +kernel : decode cJ0_checkIndex_df160 5 = .ok (.invokestatic 1059, 3)) (m_pck _ D cy b hx h0 h1) rfl rfl ?_
  refine r_pop hB (by decide +kernel : decode cJ0_checkIndex_df160 8 = .ok (.pop, 1)) rfl ?_
  exact r_vret hB (by decide +kernel : decode cJ0_checkIndex_df160 9 = .ok (.return_, 1))
theorem m_lat : Met l yJ0_isLatin1_aae02 (.code yJ0_isLatin1_aae02 cJ0_isLatin1_aae02 1 (some .boolean) :: GW) rmJ_0 (Pw2 D cy b [.ref t] μ t v w) (Qw D cy b (some (.int 1)) μ) rmJ_0.cells rmJ_0.slots (fun q => b ≤ q) := by
  refine met_of2 (by decide) (Nat.le_of_ble_eq_true rfl) (fun X hB hT hl => ?_)
  show WW X D cy b (some (.int 1)) μ 1 0 0 0 [(0, .ref t)] [] μ
  refine r_gCS hB rfl (by decide +kernel : decode cJ0_isLatin1_aae02 0 = .ok (.getstatic 38, 3)) ?_
  refine r_if_eq (A := none) (B := some ()) (R := ()) hB (tgt := 17) (by decide +kernel : decode cJ0_isLatin1_aae02 3 = .ok (.ifCond .eq 14, 3)) (by decide) (if_neg (by decide)) (fun h _ => absurd h (by decide)) (fun _ _ => ?_)
  refine r_aload_n hB 0 rfl (by decide +kernel : decode cJ0_isLatin1_aae02 6 = .ok (.aload_n 0, 1)) rfl ?_
  refine r_sCod hB hT rfl (by decide +kernel : decode cJ0_isLatin1_aae02 7 = .ok (.getfield 15, 3)) ?_
  refine r_if_ne (A := some ()) (B := none) (R := ()) hB (tgt := 17) (by decide +kernel : decode cJ0_isLatin1_aae02 10 = .ok (.ifCond .ne 7, 3)) (by decide) (if_pos rfl) (fun _ _ => ?_) (fun h _ => absurd rfl h)
  refine r_iconst hB (v := 1) (by decide +kernel : decode cJ0_isLatin1_aae02 13 = .ok (.iconst 1, 1)) (by decide +kernel) ?_
  refine r_goto hB (tgt := 18) (by decide +kernel : decode cJ0_isLatin1_aae02 14 = .ok (.goto 4, 3)) (by decide) ?_
  exact r_zret hB (Or.inr rfl) (by decide +kernel : decode cJ0_isLatin1_aae02 18 = .ok (.ireturn, 1))
theorem m_cod : Met l yJ0_coder_7d493 (.code yJ0_coder_7d493 cJ0_coder_7d493 1 (some .byte) :: GW) rmJ_0 (Pw2 D cy b [.ref t] μ t v w) (Qw D cy b (some (.int 0)) μ) rmJ_0.cells rmJ_0.slots (fun q => b ≤ q) := by
  refine met_of2 (by decide) (Nat.le_of_ble_eq_true rfl) (fun X hB hT hl => ?_)
  show WW X D cy b (some (.int 0)) μ 1 0 0 0 [(0, .ref t)] [] μ
  refine r_gCS hB rfl (by decide +kernel : decode cJ0_coder_7d493 0 = .ok (.getstatic 38, 3)) ?_
  refine r_if_eq (A := none) (B := some ()) (R := ()) hB (tgt := 13) (by decide +kernel : decode cJ0_coder_7d493 3 = .ok (.ifCond .eq 10, 3)) (by decide) (if_neg (by decide)) (fun h _ => absurd h (by decide)) (fun _ _ => ?_)
  refine r_aload_n hB 0 rfl (by decide +kernel : decode cJ0_coder_7d493 6 = .ok (.aload_n 0, 1)) rfl ?_
  refine r_sCod hB hT rfl (by decide +kernel : decode cJ0_coder_7d493 7 = .ok (.getfield 15, 3)) ?_
  refine r_goto hB (tgt := 14) (by decide +kernel : decode cJ0_coder_7d493 10 = .ok (.goto 4, 3)) (by decide) ?_
  exact r_bret hB (by decide +kernel : decode cJ0_coder_7d493 14 = .ok (.ireturn, 1))
theorem m_len (hw : okW w) : Met l yJ0_length_8abf5 (.code yJ0_length_8abf5 cJ0_length_8abf5 1 (some .int) :: GW) rmJ_len (Pw2 D cy b [.ref t] μ t v w) (Qw D cy b (some (.int (Int32.ofNat w.length))) μ) rmJ_len.cells rmJ_len.slots (fun q => b ≤ q) := by
  refine met_of2 (by decide) (Nat.le_of_ble_eq_true rfl) (fun X hB hT hl => ?_)
  show WW X D cy b (some (.int (Int32.ofNat w.length))) μ 1 0 0 0 [(0, .ref t)] [] μ
  refine r_aload_n hB 0 rfl (by decide +kernel : decode cJ0_length_8abf5 0 = .ok (.aload_n 0, 1)) rfl ?_
  refine r_sVal hB hT rfl (by decide +kernel : decode cJ0_length_8abf5 1 = .ok (.getfield 9, 3)) ?_
  refine r_sLen hB hT (by decide +kernel : decode cJ0_length_8abf5 4 = .ok (.arraylength, 1)) ?_
  refine r_aload_n hB 0 rfl (by decide +kernel : decode cJ0_length_8abf5 5 = .ok (.aload_n 0, 1)) rfl ?_
  refine callT0 (kc := 0) (ks := 0) (rm' := rmJ_0) (As := []) (rest := [.int (Int32.ofNat w.length)]) (rv := some (.int 0)) (μ1 := μ) hB hT rfl (own := "java/lang/String") rfl cmJ_cod imJ_cod k_778 (by decide) rfl (Nat.le_of_ble_eq_true rfl) (by decide +kernel : decode cJ0_length_8abf5 6 = .ok (.invokevirtual 335, 3)) (m_cod _ D cy b) rfl rfl ?_
  refine r_ishr hB (by decide +kernel : decode cJ0_length_8abf5 9 = .ok (.ishr, 1)) ?_
  rw [hw.1.1]
  exact r_iret hB (by decide +kernel : decode cJ0_length_8abf5 10 = .ok (.ireturn, 1))
theorem m_chL (hw : okW w) {k : Nat} (hk : k < w.length) : Met l yJ1_charAt_3b067 (.code yJ1_charAt_3b067 cJ1_charAt_3b067 2 (some .char) :: GW) rmJ_chL (Pw2 D cy b [.ref v, .int (nI k)] μ t v w) (Qw D cy b (some (.int (w.getD k 0))) μ) rmJ_chL.cells rmJ_chL.slots (fun q => b ≤ q) := by
  have h100 := hw.1.2
  obtain ⟨c1, c2⟩ := hw.2 k hk
  refine met_of2 (by decide) (Nat.le_of_ble_eq_true rfl) (fun X hB hT hl => ?_)
  show WW X D cy b (some (.int (w.getD k 0))) μ 2 0 0 0 [(0, .ref v), (1, .int (nI k))] [] μ
  refine r_iload_n hB 1 rfl (by decide +kernel : decode cJ1_charAt_3b067 0 = .ok (.iload_n 1, 1)) rfl ?_
  refine r_aload_n hB 0 rfl (by decide +kernel : decode cJ1_charAt_3b067 1 = .ok (.aload_n 0, 1)) rfl ?_
  refine r_sLen hB hT (by decide +kernel : decode cJ1_charAt_3b067 2 = .ok (.arraylength, 1)) ?_
  refine callO0 (kc := 0) (ks := 0) (rm' := rmJ_ck) (P := Pw D cy b [.int (nI k), .int (Int32.ofNat w.length)] μ) (As := [.int (nI k), .int (Int32.ofNat w.length)]) (rest := []) (rv := none) (μ1 := μ) hB Pw.blind (fun H locs hW hS => pre_w hB hW hS) (own := "java/lang/StringLatin1") rfl cmJ_ck k_796 k_795 (by decide) rfl (Nat.le_of_ble_eq_true rfl) (by decide +kernel : decode cJ1_charAt_3b067 3 = .ok (.invokestatic 9, 3)) (m_ck _ D cy b (nI_pos (by omega)) (nI_lt hk (by omega))) rfl rfl ?_
  refine r_aload_n hB 0 rfl (by decide +kernel : decode cJ1_charAt_3b067 6 = .ok (.aload_n 0, 1)) rfl ?_
  refine r_iload_n hB 1 rfl (by decide +kernel : decode cJ1_charAt_3b067 7 = .ok (.iload_n 1, 1)) rfl ?_
  refine r_sByt hB hT (vp_in_nI hk (by omega)) (by decide +kernel : decode cJ1_charAt_3b067 8 = .ok (.baload, 1)) ?_
  rw [nI_clamp (by omega)]
  refine r_sipush hB (v := 255) (by decide +kernel : decode cJ1_charAt_3b067 9 = .ok (.sipush 255, 3)) (by decide +kernel) ?_
  refine r_iand hB (by decide +kernel : decode cJ1_charAt_3b067 12 = .ok (.iand, 1)) ?_
  refine r_i2c hB (by decide +kernel : decode cJ1_charAt_3b067 13 = .ok (.i2c, 1)) ?_
  rw [c1]
  exact r_cret hB c2 (by decide +kernel : decode cJ1_charAt_3b067 14 = .ok (.ireturn, 1))
theorem m_chA (hw : okW w) {k : Nat} (hk : k < w.length) : Met l yJ0_charAt_5068e (.code yJ0_charAt_5068e cJ0_charAt_5068e 2 (some .char) :: GW) rmJ_chA (Pw2 D cy b [.ref t, .int (nI k)] μ t v w) (Qw D cy b (some (.int (w.getD k 0))) μ) rmJ_chA.cells rmJ_chA.slots (fun q => b ≤ q) := by
  obtain ⟨c1, c2⟩ := hw.2 k hk
  refine met_of2 (by decide) (Nat.le_of_ble_eq_true rfl) (fun X hB hT hl => ?_)
  show WW X D cy b (some (.int (w.getD k 0))) μ 2 0 0 0 [(0, .ref t), (1, .int (nI k))] [] μ
  refine r_aload_n hB 0 rfl (by decide +kernel : decode cJ0_charAt_5068e 0 = .ok (.aload_n 0, 1)) rfl ?_
  refine callT0 (kc := 0) (ks := 0) (rm' := rmJ_0) (As := []) (rest := []) (rv := some (.int 1)) (μ1 := μ) hB hT rfl (own := "java/lang/String") rfl cmJ_lat imJ_lat k_788 (by decide) rfl (Nat.le_of_ble_eq_true rfl) (by decide +kernel : decode cJ0_charAt_5068e 1 = .ok (.invokevirtual 492, 3)) (m_lat _ D cy b) rfl rfl ?_
  refine r_if_eq (A := none) (B := some ()) (R := ()) hB (tgt := 16) (by decide +kernel : decode cJ0_charAt_5068e 4 = .ok (.ifCond .eq 12, 3)) (by decide) (if_neg (by decide)) (fun h _ => absurd h (by decide)) (fun _ _ => ?_)
  refine r_aload_n hB 0 rfl (by decide +kernel : decode cJ0_charAt_5068e 7 = .ok (.aload_n 0, 1)) rfl ?_
  refine r_sVal hB hT rfl (by decide +kernel : decode cJ0_charAt_5068e 8 = .ok (.getfield 9, 3)) ?_
  refine r_iload_n hB 1 rfl (by decide +kernel : decode cJ0_charAt_5068e 11 = .ok (.iload_n 1, 1)) rfl ?_
  refine callO0 (kc := 0) (ks := 0) (rm' := rmJ_chL) (P := Pw2 D cy b [.ref v, .int (nI k)] μ t v w) (As := [.ref v, .int (nI k)]) (rest := []) (rv := some (.int (w.getD k 0))) (μ1 := μ) hB Pw2.blind (fun H locs hW hS => pre_w2 hB hT hW hS) (own := "java/lang/String") rfl cmJ_chL k_793 k_792 (by decide) rfl (Nat.le_of_ble_eq_true rfl) (by decide +kernel : decode cJ0_charAt_5068e 12 = .ok (.invokestatic 495, 3)) (m_chL _ D cy b hw hk) rfl rfl ?_
  exact r_cret hB c2 (by decide +kernel : decode cJ0_charAt_5068e 15 = .ok (.ireturn, 1))
end Jdk
