/-! printed by wip/p35/gen.py -/
-- PulseRemoteLaw.does(LPulseRemote;I)I
set_option maxHeartbeats 4000000 in
set_option maxRecDepth 100000 in
theorem t_L_does_0 {X : BX} {D : va_G} {cy : Nat → ClassId} {b : Nat} {r : Option Value} {μ' : MS} (hB : BB X D cy b yL_does cL_does 3 (some .int) rmL_does) {l0 : Nat} {l1 : Int32} {μ : MS} {z : (Int32 × MS)} (hf : f_L_does l0 l1 μ = some z) (hk : (fun z : Int32 × MS => r = some (.int z.1) ∧ μ' = z.2) z) : WW X D cy b r μ' 3 0 0 0 [(0, .ref (b + l0)), (1, .int l1)] [] μ := by
  unfold f_L_does at hf
  refine r_iload_n hB 1 rfl (by decide +kernel : decode cL_does 0 = .ok (.iload_n 1, 1)) rfl ?_
  refine r_iconst hB (v := 4) (by decide +kernel : decode cL_does 1 = .ok (.iconst 4, 1)) (by decide +kernel) ?_
  refine r_ishr hB (by decide +kernel : decode cL_does 2 = .ok (.ishr, 1)) ?_
  refine r_iconst hB (v := 3) (by decide +kernel : decode cL_does 3 = .ok (.iconst 3, 1)) (by decide +kernel) ?_
  refine r_cSi hB [.int (l1 >>> (4 &&& 31)), .int 3] [] (own := "PulseRemoteLaw") rfl cmL_low smL_low (Or.inl ⟨rfl, k_701⟩) (by decide) rfl rfl rfl (Nat.le_of_ble_eq_true rfl) (by decide +kernel : decode cL_does 4 = .ok (.invokestatic 61, 3)) (fun z hz => m_L_low _ _ _ _ hz) rfl hf (fun z4 hf => ?_)
  refine r_istore_n hB (by decide +kernel : decode cL_does 7 = .ok (.istore_n 2, 1)) rfl (by decide) rfl ?_
  refine ww_lv (lv' := [(2, .int z4.1), (0, .ref (b + l0)), (1, .int l1)]) rfl ?_
  refine r_iload_n hB 2 rfl (by decide +kernel : decode cL_does 8 = .ok (.iload_n 1, 1)) rfl ?_
  refine r_bipush hB (v := 15) (by decide +kernel : decode cL_does 9 = .ok (.bipush 15, 2)) (by decide +kernel) ?_
  refine r_iand hB (by decide +kernel : decode cL_does 11 = .ok (.iand, 1)) ?_
  rcases if_inv hf with ⟨hc, hf⟩ | ⟨h_0, hf⟩
  · rw [hc]
    refine r_tabIn hB (off := 60) (tgt := 72) (by decide +kernel : decode cL_does 12 = .ok (.tableswitch 356 0 10 #[60, 98, 173, 196, 202, 250, 264, 270, 294, 315, 340], 60)) (by decide) (by decide) (by decide +kernel) (by decide) ?_
    refine r_aload_n hB 1 rfl (by decide +kernel : decode cL_does 72 = .ok (.aload_n 0, 1)) rfl ?_
    refine r_iload_n hB 2 rfl (by decide +kernel : decode cL_does 73 = .ok (.iload_n 1, 1)) rfl ?_
    refine r_bipush hB (v := 6) (by decide +kernel : decode cL_does 74 = .ok (.bipush 6, 2)) (by decide +kernel) ?_
    refine r_ishr hB (by decide +kernel : decode cL_does 76 = .ok (.ishr, 1)) ?_
    refine r_iconst hB (v := 3) (by decide +kernel : decode cL_does 77 = .ok (.iconst 3, 1)) (by decide +kernel) ?_
    refine r_cSi hB [.int (l1 >>> (6 &&& 31)), .int 3] [.ref (b + l0)] (own := "PulseRemoteLaw") rfl cmL_low smL_low (Or.inl ⟨rfl, k_701⟩) (by decide) rfl rfl rfl (Nat.le_of_ble_eq_true rfl) (by decide +kernel : decode cL_does 78 = .ok (.invokestatic 61, 3)) (fun z hz => m_L_low _ _ _ _ hz) rfl hf (fun z78 hf => ?_)
    refine r_iconst hB (v := 1) (by decide +kernel : decode cL_does 81 = .ok (.iconst 1, 1)) (by decide +kernel) ?_
    refine r_iload_n hB 2 rfl (by decide +kernel : decode cL_does 82 = .ok (.iload_n 1, 1)) rfl ?_
    refine r_bipush hB (v := 8) (by decide +kernel : decode cL_does 83 = .ok (.bipush 8, 2)) (by decide +kernel) ?_
    refine r_ishr hB (by decide +kernel : decode cL_does 85 = .ok (.ishr, 1)) ?_
    refine r_bipush hB (v := 17) (by decide +kernel : decode cL_does 86 = .ok (.bipush 17, 2)) (by decide +kernel) ?_
    refine r_cSi hB [.int (l1 >>> (8 &&& 31)), .int 17] [.int 1, .int z78.1, .ref (b + l0)] (own := "PulseRemoteLaw") rfl cmL_low smL_low (Or.inl ⟨rfl, k_701⟩) (by decide) rfl rfl rfl (Nat.le_of_ble_eq_true rfl) (by decide +kernel : decode cL_does 88 = .ok (.invokestatic 61, 3)) (fun z hz => m_L_low _ _ _ _ hz) rfl hf (fun z88 hf => ?_)
    refine r_iadd hB (by decide +kernel : decode cL_does 91 = .ok (.iadd, 1)) ?_
    refine r_iload_n hB 2 rfl (by decide +kernel : decode cL_does 92 = .ok (.iload_n 1, 1)) rfl ?_
    refine r_bipush hB (v := 13) (by decide +kernel : decode cL_does 93 = .ok (.bipush 13, 2)) (by decide +kernel) ?_
    refine r_ishr hB (by decide +kernel : decode cL_does 95 = .ok (.ishr, 1)) ?_
    refine r_iconst hB (v := 1) (by decide +kernel : decode cL_does 96 = .ok (.iconst 1, 1)) (by decide +kernel) ?_
    refine r_iand hB (by decide +kernel : decode cL_does 97 = .ok (.iand, 1)) ?_
    refine r_iload_n hB 2 rfl (by decide +kernel : decode cL_does 98 = .ok (.iload_n 1, 1)) rfl ?_
    refine r_bipush hB (v := 14) (by decide +kernel : decode cL_does 99 = .ok (.bipush 14, 2)) (by decide +kernel) ?_
    refine r_ishr hB (by decide +kernel : decode cL_does 101 = .ok (.ishr, 1)) ?_
    refine r_iconst hB (v := 3) (by decide +kernel : decode cL_does 102 = .ok (.iconst 3, 1)) (by decide +kernel) ?_
    refine r_cSi hB [.int (l1 >>> (14 &&& 31)), .int 3] [.int ((l1 >>> (13 &&& 31)) &&& 1), .int (1 + z88.1), .int z78.1, .ref (b + l0)] (own := "PulseRemoteLaw") rfl cmL_low smL_low (Or.inl ⟨rfl, k_701⟩) (by decide) rfl rfl rfl (Nat.le_of_ble_eq_true rfl) (by decide +kernel : decode cL_does 103 = .ok (.invokestatic 61, 3)) (fun z hz => m_L_low _ _ _ _ hz) rfl hf (fun z103 hf => ?_)
    refine r_cVi hB [.int z78.1, .int (1 + z88.1), .int ((l1 >>> (13 &&& 31)) &&& 1), .int z103.1] [] cf11 (own := "PulseRemoteLaw") rfl cmX11_addProtocol imX11_addProtocol (Or.inl k_745) (by decide) rfl rfl rfl (Nat.le_of_ble_eq_true rfl) (by decide +kernel : decode cL_does 106 = .ok (.invokevirtual 66, 3)) (fun z hz => m_X11_addProtocol _ _ _ _ hz) rfl hf (fun z106 hf => ?_)
    obtain rfl := Option.some.inj hf
    obtain ⟨rfl, rfl⟩ := hk
    exact r_iret hB (by decide +kernel : decode cL_does 109 = .ok (.ireturn, 1))
  rcases if_inv hf with ⟨hc, hf⟩ | ⟨h_1, hf⟩
  · rw [hc]
    refine r_tabIn hB (off := 98) (tgt := 110) (by decide +kernel : decode cL_does 12 = .ok (.tableswitch 356 0 10 #[60, 98, 173, 196, 202, 250, 264, 270, 294, 315, 340], 60)) (by decide) (by decide) (by decide +kernel) (by decide) ?_
    refine r_aload_n hB 1 rfl (by decide +kernel : decode cL_does 110 = .ok (.aload_n 0, 1)) rfl ?_
    refine r_iload_n hB 2 rfl (by decide +kernel : decode cL_does 111 = .ok (.iload_n 1, 1)) rfl ?_
    refine r_bipush hB (v := 6) (by decide +kernel : decode cL_does 112 = .ok (.bipush 6, 2)) (by decide +kernel) ?_
    refine r_ishr hB (by decide +kernel : decode cL_does 114 = .ok (.ishr, 1)) ?_
    refine r_iconst hB (v := 3) (by decide +kernel : decode cL_does 115 = .ok (.iconst 3, 1)) (by decide +kernel) ?_
    refine r_cSi hB [.int (l1 >>> (6 &&& 31)), .int 3] [.ref (b + l0)] (own := "PulseRemoteLaw") rfl cmL_low smL_low (Or.inl ⟨rfl, k_701⟩) (by decide) rfl rfl rfl (Nat.le_of_ble_eq_true rfl) (by decide +kernel : decode cL_does 116 = .ok (.invokestatic 61, 3)) (fun z hz => m_L_low _ _ _ _ hz) rfl hf (fun z116 hf => ?_)
    refine r_sipush hB (v := 3000) (by decide +kernel : decode cL_does 119 = .ok (.sipush 3000, 3)) (by decide +kernel) ?_
    refine r_iload_n hB 2 rfl (by decide +kernel : decode cL_does 122 = .ok (.iload_n 1, 1)) rfl ?_
    refine r_bipush hB (v := 8) (by decide +kernel : decode cL_does 123 = .ok (.bipush 8, 2)) (by decide +kernel) ?_
    refine r_ishr hB (by decide +kernel : decode cL_does 125 = .ok (.ishr, 1)) ?_
    refine r_sipush hB (v := 3000) (by decide +kernel : decode cL_does 126 = .ok (.sipush 3000, 3)) (by decide +kernel) ?_
    refine r_cSi hB [.int (l1 >>> (8 &&& 31)), .int 3000] [.int 3000, .int z116.1, .ref (b + l0)] (own := "PulseRemoteLaw") rfl cmL_low smL_low (Or.inl ⟨rfl, k_701⟩) (by decide) rfl rfl rfl (Nat.le_of_ble_eq_true rfl) (by decide +kernel : decode cL_does 129 = .ok (.invokestatic 61, 3)) (fun z hz => m_L_low _ _ _ _ hz) rfl hf (fun z129 hf => ?_)
    refine r_iadd hB (by decide +kernel : decode cL_does 132 = .ok (.iadd, 1)) ?_
    refine r_sipush hB (v := 2000) (by decide +kernel : decode cL_does 133 = .ok (.sipush 2000, 3)) (by decide +kernel) ?_
    refine r_iload_n hB 2 rfl (by decide +kernel : decode cL_does 136 = .ok (.iload_n 1, 1)) rfl ?_
    refine r_bipush hB (v := 9) (by decide +kernel : decode cL_does 137 = .ok (.bipush 9, 2)) (by decide +kernel) ?_
    refine r_ishr hB (by decide +kernel : decode cL_does 139 = .ok (.ishr, 1)) ?_
    refine r_sipush hB (v := 900) (by decide +kernel : decode cL_does 140 = .ok (.sipush 900, 3)) (by decide +kernel) ?_
    refine r_cSi hB [.int (l1 >>> (9 &&& 31)), .int 900] [.int 2000, .int (3000 + z129.1), .int z116.1, .ref (b + l0)] (own := "PulseRemoteLaw") rfl cmL_low smL_low (Or.inl ⟨rfl, k_701⟩) (by decide) rfl rfl rfl (Nat.le_of_ble_eq_true rfl) (by decide +kernel : decode cL_does 143 = .ok (.invokestatic 61, 3)) (fun z hz => m_L_low _ _ _ _ hz) rfl hf (fun z143 hf => ?_)
    refine r_iadd hB (by decide +kernel : decode cL_does 146 = .ok (.iadd, 1)) ?_
    refine r_sipush hB (v := 400) (by decide +kernel : decode cL_does 147 = .ok (.sipush 400, 3)) (by decide +kernel) ?_
    refine r_iload_n hB 2 rfl (by decide +kernel : decode cL_does 150 = .ok (.iload_n 1, 1)) rfl ?_
    refine r_bipush hB (v := 12) (by decide +kernel : decode cL_does 151 = .ok (.bipush 12, 2)) (by decide +kernel) ?_
    refine r_ishr hB (by decide +kernel : decode cL_does 153 = .ok (.ishr, 1)) ?_
    refine r_sipush hB (v := 300) (by decide +kernel : decode cL_does 154 = .ok (.sipush 300, 3)) (by decide +kernel) ?_
    refine r_cSi hB [.int (l1 >>> (12 &&& 31)), .int 300] [.int 400, .int (2000 + z143.1), .int (3000 + z129.1), .int z116.1, .ref (b + l0)] (own := "PulseRemoteLaw") rfl cmL_low smL_low (Or.inl ⟨rfl, k_701⟩) (by decide) rfl rfl rfl (Nat.le_of_ble_eq_true rfl) (by decide +kernel : decode cL_does 157 = .ok (.invokestatic 61, 3)) (fun z hz => m_L_low _ _ _ _ hz) rfl hf (fun z157 hf => ?_)
    refine r_iadd hB (by decide +kernel : decode cL_does 160 = .ok (.iadd, 1)) ?_
    refine r_iload_n hB 2 rfl (by decide +kernel : decode cL_does 161 = .ok (.iload_n 1, 1)) rfl ?_
    refine r_bipush hB (v := 25) (by decide +kernel : decode cL_does 162 = .ok (.bipush 25, 2)) (by decide +kernel) ?_
    refine r_ishr hB (by decide +kernel : decode cL_does 164 = .ok (.ishr, 1)) ?_
    refine r_iconst hB (v := 1) (by decide +kernel : decode cL_does 165 = .ok (.iconst 1, 1)) (by decide +kernel) ?_
    refine r_iand hB (by decide +kernel : decode cL_does 166 = .ok (.iand, 1)) ?_
    refine r_sipush hB (v := 500) (by decide +kernel : decode cL_does 167 = .ok (.sipush 500, 3)) (by decide +kernel) ?_
    refine r_imul hB (by decide +kernel : decode cL_does 170 = .ok (.imul, 1)) ?_
    refine r_iload_n hB 2 rfl (by decide +kernel : decode cL_does 171 = .ok (.iload_n 1, 1)) rfl ?_
    refine r_bipush hB (v := 25) (by decide +kernel : decode cL_does 172 = .ok (.bipush 25, 2)) (by decide +kernel) ?_
    refine r_ishr hB (by decide +kernel : decode cL_does 174 = .ok (.ishr, 1)) ?_
    refine r_iconst hB (v := 1) (by decide +kernel : decode cL_does 175 = .ok (.iconst 1, 1)) (by decide +kernel) ?_
    refine r_iand hB (by decide +kernel : decode cL_does 176 = .ok (.iand, 1)) ?_
    refine r_sipush hB (v := 1500) (by decide +kernel : decode cL_does 177 = .ok (.sipush 1500, 3)) (by decide +kernel) ?_
    refine r_imul hB (by decide +kernel : decode cL_does 180 = .ok (.imul, 1)) ?_
    refine r_cVi hB [.int z116.1, .int (3000 + z129.1), .int (2000 + z143.1), .int (400 + z157.1), .int (((l1 >>> (25 &&& 31)) &&& 1) * 500), .int (((l1 >>> (25 &&& 31)) &&& 1) * 1500)] [] cf11 (own := "PulseRemoteLaw") rfl cmX11_setLengths imX11_setLengths (Or.inl k_759) (by decide) rfl rfl rfl (Nat.le_of_ble_eq_true rfl) (by decide +kernel : decode cL_does 181 = .ok (.invokevirtual 70, 3)) (fun z hz => m_X11_setLengths _ _ _ _ hz) rfl hf (fun z181 hf => ?_)
    obtain rfl := Option.some.inj hf
    obtain ⟨rfl, rfl⟩ := hk
    exact r_iret hB (by decide +kernel : decode cL_does 184 = .ok (.ireturn, 1))
  rcases if_inv hf with ⟨hc, hf⟩ | ⟨h_2, hf⟩
  · rw [hc]
    refine r_tabIn hB (off := 173) (tgt := 185) (by decide +kernel : decode cL_does 12 = .ok (.tableswitch 356 0 10 #[60, 98, 173, 196, 202, 250, 264, 270, 294, 315, 340], 60)) (by decide) (by decide) (by decide +kernel) (by decide) ?_
    refine r_aload_n hB 1 rfl (by decide +kernel : decode cL_does 185 = .ok (.aload_n 0, 1)) rfl ?_
    refine r_iload_n hB 2 rfl (by decide +kernel : decode cL_does 186 = .ok (.iload_n 1, 1)) rfl ?_
    refine r_bipush hB (v := 6) (by decide +kernel : decode cL_does 187 = .ok (.bipush 6, 2)) (by decide +kernel) ?_
    refine r_ishr hB (by decide +kernel : decode cL_does 189 = .ok (.ishr, 1)) ?_
    refine r_iconst hB (v := 3) (by decide +kernel : decode cL_does 190 = .ok (.iconst 3, 1)) (by decide +kernel) ?_
    refine r_cSi hB [.int (l1 >>> (6 &&& 31)), .int 3] [.ref (b + l0)] (own := "PulseRemoteLaw") rfl cmL_low smL_low (Or.inl ⟨rfl, k_701⟩) (by decide) rfl rfl rfl (Nat.le_of_ble_eq_true rfl) (by decide +kernel : decode cL_does 191 = .ok (.invokestatic 61, 3)) (fun z hz => m_L_low _ _ _ _ hz) rfl hf (fun z191 hf => ?_)
    refine r_iload_n hB 2 rfl (by decide +kernel : decode cL_does 194 = .ok (.iload_n 1, 1)) rfl ?_
    refine r_bipush hB (v := 8) (by decide +kernel : decode cL_does 195 = .ok (.bipush 8, 2)) (by decide +kernel) ?_
    refine r_ishr hB (by decide +kernel : decode cL_does 197 = .ok (.ishr, 1)) ?_
    refine r_sipush hB (v := 300) (by decide +kernel : decode cL_does 198 = .ok (.sipush 300, 3)) (by decide +kernel) ?_
    refine r_cSi hB [.int (l1 >>> (8 &&& 31)), .int 300] [.int z191.1, .ref (b + l0)] (own := "PulseRemoteLaw") rfl cmL_low smL_low (Or.inl ⟨rfl, k_701⟩) (by decide) rfl rfl rfl (Nat.le_of_ble_eq_true rfl) (by decide +kernel : decode cL_does 201 = .ok (.invokestatic 61, 3)) (fun z hz => m_L_low _ _ _ _ hz) rfl hf (fun z201 hf => ?_)
    refine r_cVi hB [.int z191.1, .int z201.1] [] cf11 (own := "PulseRemoteLaw") rfl cmX11_addButton imX11_addButton (Or.inl k_770) (by decide) rfl rfl rfl (Nat.le_of_ble_eq_true rfl) (by decide +kernel : decode cL_does 204 = .ok (.invokevirtual 74, 3)) (fun z hz => m_X11_addButton _ _ _ _ hz) rfl hf (fun z204 hf => ?_)
    obtain rfl := Option.some.inj hf
    obtain ⟨rfl, rfl⟩ := hk
    exact r_iret hB (by decide +kernel : decode cL_does 207 = .ok (.ireturn, 1))
  rcases if_inv hf with ⟨hc, hf⟩ | ⟨h_3, hf⟩
  · rw [hc]
    refine r_tabIn hB (off := 196) (tgt := 208) (by decide +kernel : decode cL_does 12 = .ok (.tableswitch 356 0 10 #[60, 98, 173, 196, 202, 250, 264, 270, 294, 315, 340], 60)) (by decide) (by decide) (by decide +kernel) (by decide) ?_
    refine r_aload_n hB 1 rfl (by decide +kernel : decode cL_does 208 = .ok (.aload_n 0, 1)) rfl ?_
    refine r_iload_n hB 0 rfl (by decide +kernel : decode cL_does 209 = .ok (.iload_n 2, 1)) rfl ?_
    refine r_cVi hB [.int z4.1] [] cf11 (own := "PulseRemoteLaw") rfl cmX11_learn imX11_learn (Or.inl k_788) (by decide) rfl rfl rfl (Nat.le_of_ble_eq_true rfl) (by decide +kernel : decode cL_does 210 = .ok (.invokevirtual 77, 3)) (fun z hz => m_X11_learn _ _ _ _ hz) rfl hf (fun z210 hf => ?_)
    obtain rfl := Option.some.inj hf
    obtain ⟨rfl, rfl⟩ := hk
    exact r_iret hB (by decide +kernel : decode cL_does 213 = .ok (.ireturn, 1))
  rcases if_inv hf with ⟨hc, hf⟩ | ⟨h_4, hf⟩
  · rw [hc]
    refine r_tabIn hB (off := 202) (tgt := 214) (by decide +kernel : decode cL_does 12 = .ok (.tableswitch 356 0 10 #[60, 98, 173, 196, 202, 250, 264, 270, 294, 315, 340], 60)) (by decide) (by decide) (by decide +kernel) (by decide) ?_
    refine r_iload_n hB 2 rfl (by decide +kernel : decode cL_does 214 = .ok (.iload_n 1, 1)) rfl ?_
    refine r_bipush hB (v := 6) (by decide +kernel : decode cL_does 215 = .ok (.bipush 6, 2)) (by decide +kernel) ?_
    refine r_ishr hB (by decide +kernel : decode cL_does 217 = .ok (.ishr, 1)) ?_
    refine r_iconst hB (v := 1) (by decide +kernel : decode cL_does 218 = .ok (.iconst 1, 1)) (by decide +kernel) ?_
    refine r_iand hB (by decide +kernel : decode cL_does 219 = .ok (.iand, 1)) ?_
    refine r_if_ne hB (tgt := 244) (by decide +kernel : decode cL_does 220 = .ok (.ifCond .ne 24, 3)) (by decide) hf (fun _ hf => ?_) (fun _ hf => ?_)
    · refine r_aload_n hB 1 rfl (by decide +kernel : decode cL_does 223 = .ok (.aload_n 0, 1)) rfl ?_
      refine r_sipush hB (v := 900) (by decide +kernel : decode cL_does 224 = .ok (.sipush 900, 3)) (by decide +kernel) ?_
      refine r_iload_n hB 2 rfl (by decide +kernel : decode cL_does 227 = .ok (.iload_n 1, 1)) rfl ?_
      refine r_bipush hB (v := 7) (by decide +kernel : decode cL_does 228 = .ok (.bipush 7, 2)) (by decide +kernel) ?_
      refine r_ishr hB (by decide +kernel : decode cL_does 230 = .ok (.ishr, 1)) ?_
      refine r_sipush hB (v := 20000) (by decide +kernel : decode cL_does 231 = .ok (.sipush 20000, 3)) (by decide +kernel) ?_
      refine r_cSi hB [.int (l1 >>> (7 &&& 31)), .int 20000] [.int 900, .ref (b + l0)] (own := "PulseRemoteLaw") rfl cmL_low smL_low (Or.inl ⟨rfl, k_701⟩) (by decide) rfl rfl rfl (Nat.le_of_ble_eq_true rfl) (by decide +kernel : decode cL_does 234 = .ok (.invokestatic 61, 3)) (fun z hz => m_L_low _ _ _ _ hz) rfl hf (fun z234 hf => ?_)
      refine r_iadd hB (by decide +kernel : decode cL_does 237 = .ok (.iadd, 1)) ?_
      refine r_cVi hB [.int (900 + z234.1)] [] cf11 (own := "PulseRemoteLaw") rfl cmX11_setGap imX11_setGap (Or.inl k_832) (by decide) rfl rfl rfl (Nat.le_of_ble_eq_true rfl) (by decide +kernel : decode cL_does 238 = .ok (.invokevirtual 80, 3)) (fun z hz => m_X11_setGap _ _ _ _ hz) rfl hf (fun z238 hf => ?_)
      refine r_goto hB (tgt := 261) (by decide +kernel : decode cL_does 241 = .ok (.goto 20, 3)) (by decide) ?_
      obtain rfl := Option.some.inj hf
      obtain ⟨rfl, rfl⟩ := hk
      exact r_iret hB (by decide +kernel : decode cL_does 261 = .ok (.ireturn, 1))
    · refine r_aload_n hB 1 rfl (by decide +kernel : decode cL_does 244 = .ok (.aload_n 0, 1)) rfl ?_
      refine r_sipush hB (v := 900) (by decide +kernel : decode cL_does 245 = .ok (.sipush 900, 3)) (by decide +kernel) ?_
      refine r_iload_n hB 2 rfl (by decide +kernel : decode cL_does 248 = .ok (.iload_n 1, 1)) rfl ?_
      refine r_bipush hB (v := 7) (by decide +kernel : decode cL_does 249 = .ok (.bipush 7, 2)) (by decide +kernel) ?_
      refine r_ishr hB (by decide +kernel : decode cL_does 251 = .ok (.ishr, 1)) ?_
      refine r_ldc hB (v := 60000) (own := "PulseRemoteLaw") rfl k_837 (by decide +kernel : decode cL_does 252 = .ok (.ldc 83, 2)) ?_
      refine r_cSi hB [.int (l1 >>> (7 &&& 31)), .int 60000] [.int 900, .ref (b + l0)] (own := "PulseRemoteLaw") rfl cmL_low smL_low (Or.inl ⟨rfl, k_701⟩) (by decide) rfl rfl rfl (Nat.le_of_ble_eq_true rfl) (by decide +kernel : decode cL_does 254 = .ok (.invokestatic 61, 3)) (fun z hz => m_L_low _ _ _ _ hz) rfl hf (fun z254 hf => ?_)
      refine r_iadd hB (by decide +kernel : decode cL_does 257 = .ok (.iadd, 1)) ?_
      refine r_cVi hB [.int (900 + z254.1)] [] cf11 (own := "PulseRemoteLaw") rfl cmX11_setHold imX11_setHold (Or.inl k_838) (by decide) rfl rfl rfl (Nat.le_of_ble_eq_true rfl) (by decide +kernel : decode cL_does 258 = .ok (.invokevirtual 84, 3)) (fun z hz => m_X11_setHold _ _ _ _ hz) rfl hf (fun z258 hf => ?_)
      obtain rfl := Option.some.inj hf
      obtain ⟨rfl, rfl⟩ := hk
      exact r_iret hB (by decide +kernel : decode cL_does 261 = .ok (.ireturn, 1))
  rcases if_inv hf with ⟨hc, hf⟩ | ⟨h_5, hf⟩
  · rw [hc]
    refine r_tabIn hB (off := 250) (tgt := 262) (by decide +kernel : decode cL_does 12 = .ok (.tableswitch 356 0 10 #[60, 98, 173, 196, 202, 250, 264, 270, 294, 315, 340], 60)) (by decide) (by decide) (by decide +kernel) (by decide) ?_
    refine r_aload_n hB 1 rfl (by decide +kernel : decode cL_does 262 = .ok (.aload_n 0, 1)) rfl ?_
    refine r_iload_n hB 2 rfl (by decide +kernel : decode cL_does 263 = .ok (.iload_n 1, 1)) rfl ?_
    refine r_bipush hB (v := 6) (by decide +kernel : decode cL_does 264 = .ok (.bipush 6, 2)) (by decide +kernel) ?_
    refine r_ishr hB (by decide +kernel : decode cL_does 266 = .ok (.ishr, 1)) ?_
    refine r_bipush hB (v := 44) (by decide +kernel : decode cL_does 267 = .ok (.bipush 44, 2)) (by decide +kernel) ?_
    refine r_cSi hB [.int (l1 >>> (6 &&& 31)), .int 44] [.ref (b + l0)] (own := "PulseRemoteLaw") rfl cmL_low smL_low (Or.inl ⟨rfl, k_701⟩) (by decide) rfl rfl rfl (Nat.le_of_ble_eq_true rfl) (by decide +kernel : decode cL_does 269 = .ok (.invokestatic 61, 3)) (fun z hz => m_L_low _ _ _ _ hz) rfl hf (fun z269 hf => ?_)
    refine r_cVi hB [.int z269.1] [] cf11 (own := "PulseRemoteLaw") rfl cmX11_setTolerance imX11_setTolerance (Or.inl k_436) (by decide) rfl rfl rfl (Nat.le_of_ble_eq_true rfl) (by decide +kernel : decode cL_does 272 = .ok (.invokevirtual 87, 3)) (fun z hz => m_X11_setTolerance _ _ _ _ hz) rfl hf (fun z272 hf => ?_)
    obtain rfl := Option.some.inj hf
    obtain ⟨rfl, rfl⟩ := hk
    exact r_iret hB (by decide +kernel : decode cL_does 275 = .ok (.ireturn, 1))
  rcases if_inv hf with ⟨hc, hf⟩ | ⟨h_6, hf⟩
  · rw [hc]
    refine r_tabIn hB (off := 264) (tgt := 276) (by decide +kernel : decode cL_does 12 = .ok (.tableswitch 356 0 10 #[60, 98, 173, 196, 202, 250, 264, 270, 294, 315, 340], 60)) (by decide) (by decide) (by decide +kernel) (by decide) ?_
    refine r_aload_n hB 1 rfl (by decide +kernel : decode cL_does 276 = .ok (.aload_n 0, 1)) rfl ?_
    refine r_iload_n hB 0 rfl (by decide +kernel : decode cL_does 277 = .ok (.iload_n 2, 1)) rfl ?_
    refine r_cVi hB [.int z4.1] [] cf11 (own := "PulseRemoteLaw") rfl cmX11_clear imX11_clear (Or.inl k_842) (by decide) rfl rfl rfl (Nat.le_of_ble_eq_true rfl) (by decide +kernel : decode cL_does 278 = .ok (.invokevirtual 90, 3)) (fun z hz => m_X11_clear _ _ _ _ hz) rfl hf (fun z278 hf => ?_)
    obtain rfl := Option.some.inj hf
    obtain ⟨rfl, rfl⟩ := hk
    exact r_iret hB (by decide +kernel : decode cL_does 281 = .ok (.ireturn, 1))
  rcases if_inv hf with ⟨hc, hf⟩ | ⟨h_7, hf⟩
  · rw [hc]
    refine r_tabIn hB (off := 270) (tgt := 282) (by decide +kernel : decode cL_does 12 = .ok (.tableswitch 356 0 10 #[60, 98, 173, 196, 202, 250, 264, 270, 294, 315, 340], 60)) (by decide) (by decide) (by decide +kernel) (by decide) ?_
    refine r_aload_n hB 1 rfl (by decide +kernel : decode cL_does 282 = .ok (.aload_n 0, 1)) rfl ?_
    refine r_iload_n hB 0 rfl (by decide +kernel : decode cL_does 283 = .ok (.iload_n 2, 1)) rfl ?_
    refine r_iload_n hB 2 rfl (by decide +kernel : decode cL_does 284 = .ok (.iload_n 1, 1)) rfl ?_
    refine r_bipush hB (v := 6) (by decide +kernel : decode cL_does 285 = .ok (.bipush 6, 2)) (by decide +kernel) ?_
    refine r_ishr hB (by decide +kernel : decode cL_does 287 = .ok (.ishr, 1)) ?_
    refine r_iconst hB (v := 3) (by decide +kernel : decode cL_does 288 = .ok (.iconst 3, 1)) (by decide +kernel) ?_
    refine r_cSi hB [.int (l1 >>> (6 &&& 31)), .int 3] [.int z4.1, .ref (b + l0)] (own := "PulseRemoteLaw") rfl cmL_low smL_low (Or.inl ⟨rfl, k_701⟩) (by decide) rfl rfl rfl (Nat.le_of_ble_eq_true rfl) (by decide +kernel : decode cL_does 289 = .ok (.invokestatic 61, 3)) (fun z hz => m_L_low _ _ _ _ hz) rfl hf (fun z289 hf => ?_)
    refine r_iload_n hB 2 rfl (by decide +kernel : decode cL_does 292 = .ok (.iload_n 1, 1)) rfl ?_
    refine r_bipush hB (v := 8) (by decide +kernel : decode cL_does 293 = .ok (.bipush 8, 2)) (by decide +kernel) ?_
    refine r_ishr hB (by decide +kernel : decode cL_does 295 = .ok (.ishr, 1)) ?_
    refine r_sipush hB (v := 20000) (by decide +kernel : decode cL_does 296 = .ok (.sipush 20000, 3)) (by decide +kernel) ?_
    refine r_cSi hB [.int (l1 >>> (8 &&& 31)), .int 20000] [.int z289.1, .int z4.1, .ref (b + l0)] (own := "PulseRemoteLaw") rfl cmL_low smL_low (Or.inl ⟨rfl, k_701⟩) (by decide) rfl rfl rfl (Nat.le_of_ble_eq_true rfl) (by decide +kernel : decode cL_does 299 = .ok (.invokestatic 61, 3)) (fun z hz => m_L_low _ _ _ _ hz) rfl hf (fun z299 hf => ?_)
    refine r_cVi hB [.int z4.1, .int z289.1, .int z299.1] [] cf11 (own := "PulseRemoteLaw") rfl cmX11_overlay imX11_overlay (Or.inl k_846) (by decide) rfl rfl rfl (Nat.le_of_ble_eq_true rfl) (by decide +kernel : decode cL_does 302 = .ok (.invokevirtual 93, 3)) (fun z hz => m_X11_overlay _ _ _ _ hz) rfl hf (fun z302 hf => ?_)
    obtain rfl := Option.some.inj hf
    obtain ⟨rfl, rfl⟩ := hk
    exact r_iret hB (by decide +kernel : decode cL_does 305 = .ok (.ireturn, 1))
  rcases if_inv hf with ⟨hc, hf⟩ | ⟨h_8, hf⟩
  · rw [hc]
    refine r_tabIn hB (off := 294) (tgt := 306) (by decide +kernel : decode cL_does 12 = .ok (.tableswitch 356 0 10 #[60, 98, 173, 196, 202, 250, 264, 270, 294, 315, 340], 60)) (by decide) (by decide) (by decide +kernel) (by decide) ?_
    refine r_aload_n hB 1 rfl (by decide +kernel : decode cL_does 306 = .ok (.aload_n 0, 1)) rfl ?_
    refine r_iload_n hB 0 rfl (by decide +kernel : decode cL_does 307 = .ok (.iload_n 2, 1)) rfl ?_
    refine r_iload_n hB 2 rfl (by decide +kernel : decode cL_does 308 = .ok (.iload_n 1, 1)) rfl ?_
    refine r_bipush hB (v := 6) (by decide +kernel : decode cL_does 309 = .ok (.bipush 6, 2)) (by decide +kernel) ?_
    refine r_ishr hB (by decide +kernel : decode cL_does 311 = .ok (.ishr, 1)) ?_
    refine r_bipush hB (v := 33) (by decide +kernel : decode cL_does 312 = .ok (.bipush 33, 2)) (by decide +kernel) ?_
    refine r_cSi hB [.int (l1 >>> (6 &&& 31)), .int 33] [.int z4.1, .ref (b + l0)] (own := "PulseRemoteLaw") rfl cmL_low smL_low (Or.inl ⟨rfl, k_701⟩) (by decide) rfl rfl rfl (Nat.le_of_ble_eq_true rfl) (by decide +kernel : decode cL_does 314 = .ok (.invokestatic 61, 3)) (fun z hz => m_L_low _ _ _ _ hz) rfl hf (fun z314 hf => ?_)
    refine r_iload_n hB 2 rfl (by decide +kernel : decode cL_does 317 = .ok (.iload_n 1, 1)) rfl ?_
    refine r_bipush hB (v := 12) (by decide +kernel : decode cL_does 318 = .ok (.bipush 12, 2)) (by decide +kernel) ?_
    refine r_ishr hB (by decide +kernel : decode cL_does 320 = .ok (.ishr, 1)) ?_
    refine r_iconst hB (v := 1) (by decide +kernel : decode cL_does 321 = .ok (.iconst 1, 1)) (by decide +kernel) ?_
    refine r_iand hB (by decide +kernel : decode cL_does 322 = .ok (.iand, 1)) ?_
    refine r_cVi hB [.int z4.1, .int z314.1, .int ((l1 >>> (12 &&& 31)) &&& 1)] [] cf11 (own := "PulseRemoteLaw") rfl cmX11_distort imX11_distort (Or.inl k_881) (by decide) rfl rfl rfl (Nat.le_of_ble_eq_true rfl) (by decide +kernel : decode cL_does 323 = .ok (.invokevirtual 97, 3)) (fun z hz => m_X11_distort _ _ _ _ hz) rfl hf (fun z323 hf => ?_)
    obtain rfl := Option.some.inj hf
    obtain ⟨rfl, rfl⟩ := hk
    exact r_iret hB (by decide +kernel : decode cL_does 326 = .ok (.ireturn, 1))
  rcases if_inv hf with ⟨hc, hf⟩ | ⟨h_9, hf⟩
  · rw [hc]
    refine r_tabIn hB (off := 315) (tgt := 327) (by decide +kernel : decode cL_does 12 = .ok (.tableswitch 356 0 10 #[60, 98, 173, 196, 202, 250, 264, 270, 294, 315, 340], 60)) (by decide) (by decide) (by decide +kernel) (by decide) ?_
    refine r_aload_n hB 1 rfl (by decide +kernel : decode cL_does 327 = .ok (.aload_n 0, 1)) rfl ?_
    refine r_iload_n hB 0 rfl (by decide +kernel : decode cL_does 328 = .ok (.iload_n 2, 1)) rfl ?_
    refine r_iload_n hB 2 rfl (by decide +kernel : decode cL_does 329 = .ok (.iload_n 1, 1)) rfl ?_
    refine r_bipush hB (v := 6) (by decide +kernel : decode cL_does 330 = .ok (.bipush 6, 2)) (by decide +kernel) ?_
    refine r_ishr hB (by decide +kernel : decode cL_does 332 = .ok (.ishr, 1)) ?_
    refine r_iconst hB (v := 3) (by decide +kernel : decode cL_does 333 = .ok (.iconst 3, 1)) (by decide +kernel) ?_
    refine r_cSi hB [.int (l1 >>> (6 &&& 31)), .int 3] [.int z4.1, .ref (b + l0)] (own := "PulseRemoteLaw") rfl cmL_low smL_low (Or.inl ⟨rfl, k_701⟩) (by decide) rfl rfl rfl (Nat.le_of_ble_eq_true rfl) (by decide +kernel : decode cL_does 334 = .ok (.invokestatic 61, 3)) (fun z hz => m_L_low _ _ _ _ hz) rfl hf (fun z334 hf => ?_)
    refine r_iconst hB (v := 1) (by decide +kernel : decode cL_does 337 = .ok (.iconst 1, 1)) (by decide +kernel) ?_
    refine r_iload_n hB 2 rfl (by decide +kernel : decode cL_does 338 = .ok (.iload_n 1, 1)) rfl ?_
    refine r_bipush hB (v := 8) (by decide +kernel : decode cL_does 339 = .ok (.bipush 8, 2)) (by decide +kernel) ?_
    refine r_ishr hB (by decide +kernel : decode cL_does 341 = .ok (.ishr, 1)) ?_
    refine r_ldc hB (v := 50000) (own := "PulseRemoteLaw") rfl k_890 (by decide +kernel : decode cL_does 342 = .ok (.ldc 100, 2)) ?_
    refine r_cSi hB [.int (l1 >>> (8 &&& 31)), .int 50000] [.int 1, .int z334.1, .int z4.1, .ref (b + l0)] (own := "PulseRemoteLaw") rfl cmL_low smL_low (Or.inl ⟨rfl, k_701⟩) (by decide) rfl rfl rfl (Nat.le_of_ble_eq_true rfl) (by decide +kernel : decode cL_does 344 = .ok (.invokestatic 61, 3)) (fun z hz => m_L_low _ _ _ _ hz) rfl hf (fun z344 hf => ?_)
    refine r_iadd hB (by decide +kernel : decode cL_does 347 = .ok (.iadd, 1)) ?_
    refine r_cVi hB [.int z4.1, .int z334.1, .int (1 + z344.1)] [] cf11 (own := "PulseRemoteLaw") rfl cmX11_sendShort imX11_sendShort (Or.inl k_891) (by decide) rfl rfl rfl (Nat.le_of_ble_eq_true rfl) (by decide +kernel : decode cL_does 348 = .ok (.invokevirtual 101, 3)) (fun z hz => m_X11_sendShort _ _ _ _ hz) rfl hf (fun z348 hf => ?_)
    obtain rfl := Option.some.inj hf
    obtain ⟨rfl, rfl⟩ := hk
    exact r_iret hB (by decide +kernel : decode cL_does 351 = .ok (.ireturn, 1))
  rcases if_inv hf with ⟨hc, hf⟩ | ⟨h_10, hf⟩
  · rw [hc]
    refine r_tabIn hB (off := 340) (tgt := 352) (by decide +kernel : decode cL_does 12 = .ok (.tableswitch 356 0 10 #[60, 98, 173, 196, 202, 250, 264, 270, 294, 315, 340], 60)) (by decide) (by decide) (by decide +kernel) (by decide) ?_
    refine r_aload_n hB 1 rfl (by decide +kernel : decode cL_does 352 = .ok (.aload_n 0, 1)) rfl ?_
    refine r_iload_n hB 0 rfl (by decide +kernel : decode cL_does 353 = .ok (.iload_n 2, 1)) rfl ?_
    refine r_iload_n hB 2 rfl (by decide +kernel : decode cL_does 354 = .ok (.iload_n 1, 1)) rfl ?_
    refine r_bipush hB (v := 6) (by decide +kernel : decode cL_does 355 = .ok (.bipush 6, 2)) (by decide +kernel) ?_
    refine r_ishr hB (by decide +kernel : decode cL_does 357 = .ok (.ishr, 1)) ?_
    refine r_sipush hB (v := 20000) (by decide +kernel : decode cL_does 358 = .ok (.sipush 20000, 3)) (by decide +kernel) ?_
    refine r_cSi hB [.int (l1 >>> (6 &&& 31)), .int 20000] [.int z4.1, .ref (b + l0)] (own := "PulseRemoteLaw") rfl cmL_low smL_low (Or.inl ⟨rfl, k_701⟩) (by decide) rfl rfl rfl (Nat.le_of_ble_eq_true rfl) (by decide +kernel : decode cL_does 361 = .ok (.invokestatic 61, 3)) (fun z hz => m_L_low _ _ _ _ hz) rfl hf (fun z361 hf => ?_)
    refine r_cVi hB [.int z4.1, .int z361.1] [] cf11 (own := "PulseRemoteLaw") rfl cmX11_append imX11_append (Or.inl k_900) (by decide) rfl rfl rfl (Nat.le_of_ble_eq_true rfl) (by decide +kernel : decode cL_does 364 = .ok (.invokevirtual 104, 3)) (fun z hz => m_X11_append _ _ _ _ hz) rfl hf (fun z364 hf => ?_)
    obtain rfl := Option.some.inj hf
    obtain ⟨rfl, rfl⟩ := hk
    exact r_iret hB (by decide +kernel : decode cL_does 367 = .ok (.ireturn, 1))
  refine r_tabOut hB (tgt := 368) (by decide +kernel : decode cL_does 12 = .ok (.tableswitch 356 0 10 #[60, 98, 173, 196, 202, 250, 264, 270, 294, 315, 340], 60)) (by
    have g_0 := lv_neT (a := 0) h_0 (by decide)
    have g_1 := lv_neT (a := 1) h_1 (by decide)
    have g_2 := lv_neT (a := 2) h_2 (by decide)
    have g_3 := lv_neT (a := 3) h_3 (by decide)
    have g_4 := lv_neT (a := 4) h_4 (by decide)
    have g_5 := lv_neT (a := 5) h_5 (by decide)
    have g_6 := lv_neT (a := 6) h_6 (by decide)
    have g_7 := lv_neT (a := 7) h_7 (by decide)
    have g_8 := lv_neT (a := 8) h_8 (by decide)
    have g_9 := lv_neT (a := 9) h_9 (by decide)
    have g_10 := lv_neT (a := 10) h_10 (by decide)
    omega) (by decide) ?_
  refine r_aload_n hB 1 rfl (by decide +kernel : decode cL_does 368 = .ok (.aload_n 0, 1)) rfl ?_
  refine r_iload_n hB 0 rfl (by decide +kernel : decode cL_does 369 = .ok (.iload_n 2, 1)) rfl ?_
  refine r_iload_n hB 2 rfl (by decide +kernel : decode cL_does 370 = .ok (.iload_n 1, 1)) rfl ?_
  refine r_bipush hB (v := 6) (by decide +kernel : decode cL_does 371 = .ok (.bipush 6, 2)) (by decide +kernel) ?_
  refine r_ishr hB (by decide +kernel : decode cL_does 373 = .ok (.ishr, 1)) ?_
  refine r_iconst hB (v := 3) (by decide +kernel : decode cL_does 374 = .ok (.iconst 3, 1)) (by decide +kernel) ?_
  refine r_cSi hB [.int (l1 >>> (6 &&& 31)), .int 3] [.int z4.1, .ref (b + l0)] (own := "PulseRemoteLaw") rfl cmL_low smL_low (Or.inl ⟨rfl, k_701⟩) (by decide) rfl rfl rfl (Nat.le_of_ble_eq_true rfl) (by decide +kernel : decode cL_does 375 = .ok (.invokestatic 61, 3)) (fun z hz => m_L_low _ _ _ _ hz) rfl hf (fun z375 hf => ?_)
  refine r_iload_n hB 2 rfl (by decide +kernel : decode cL_does 378 = .ok (.iload_n 1, 1)) rfl ?_
  refine r_bipush hB (v := 8) (by decide +kernel : decode cL_does 379 = .ok (.bipush 8, 2)) (by decide +kernel) ?_
  refine r_ishr hB (by decide +kernel : decode cL_does 381 = .ok (.ishr, 1)) ?_
  refine r_sipush hB (v := 300) (by decide +kernel : decode cL_does 382 = .ok (.sipush 300, 3)) (by decide +kernel) ?_
  refine r_cSi hB [.int (l1 >>> (8 &&& 31)), .int 300] [.int z375.1, .int z4.1, .ref (b + l0)] (own := "PulseRemoteLaw") rfl cmL_low smL_low (Or.inl ⟨rfl, k_701⟩) (by decide) rfl rfl rfl (Nat.le_of_ble_eq_true rfl) (by decide +kernel : decode cL_does 385 = .ok (.invokestatic 61, 3)) (fun z hz => m_L_low _ _ _ _ hz) rfl hf (fun z385 hf => ?_)
  refine r_iconst hB (v := 1) (by decide +kernel : decode cL_does 388 = .ok (.iconst 1, 1)) (by decide +kernel) ?_
  refine r_iload_n hB 2 rfl (by decide +kernel : decode cL_does 389 = .ok (.iload_n 1, 1)) rfl ?_
  refine r_bipush hB (v := 9) (by decide +kernel : decode cL_does 390 = .ok (.bipush 9, 2)) (by decide +kernel) ?_
  refine r_ishr hB (by decide +kernel : decode cL_does 392 = .ok (.ishr, 1)) ?_
  refine r_ldc hB (v := 50000) (own := "PulseRemoteLaw") rfl k_890 (by decide +kernel : decode cL_does 393 = .ok (.ldc 100, 2)) ?_
  refine r_cSi hB [.int (l1 >>> (9 &&& 31)), .int 50000] [.int 1, .int z385.1, .int z375.1, .int z4.1, .ref (b + l0)] (own := "PulseRemoteLaw") rfl cmL_low smL_low (Or.inl ⟨rfl, k_701⟩) (by decide) rfl rfl rfl (Nat.le_of_ble_eq_true rfl) (by decide +kernel : decode cL_does 395 = .ok (.invokestatic 61, 3)) (fun z hz => m_L_low _ _ _ _ hz) rfl hf (fun z395 hf => ?_)
  refine r_iadd hB (by decide +kernel : decode cL_does 398 = .ok (.iadd, 1)) ?_
  refine r_cVi hB [.int z4.1, .int z375.1, .int z385.1, .int (1 + z395.1)] [] cf11 (own := "PulseRemoteLaw") rfl cmX11_send imX11_send (Or.inl k_904) (by decide) rfl rfl rfl (Nat.le_of_ble_eq_true rfl) (by decide +kernel : decode cL_does 399 = .ok (.invokevirtual 107, 3)) (fun z hz => m_X11_send _ _ _ _ hz) rfl hf (fun z399 hf => ?_)
  obtain rfl := Option.some.inj hf
  obtain ⟨rfl, rfl⟩ := hk
  exact r_iret hB (by decide +kernel : decode cL_does 402 = .ok (.ireturn, 1))
theorem m_L_does (l : Launch) (D : va_G) (cy : Nat → ClassId) (b : Nat) {l0 : Nat} {l1 : Int32} {μ : MS} {z : Int32 × MS} (hf : f_L_does l0 l1 μ = some z) : Met l yL_does (.code yL_does cL_does 3 (some .int) :: GW) rmL_does (Pw D cy b [.ref (b + l0), .int l1] μ) (Qw D cy b (some (.int z.1)) (z.2)) rmL_does.cells rmL_does.slots (fun q => b ≤ q) :=
  met_of (by decide) (Nat.le_of_ble_eq_true rfl) (fun X hB _ => (t_L_does_0 hB hf ⟨rfl, rfl⟩))
-- PulseRemoteLaw.law([I)Z
set_option maxHeartbeats 4000000 in
set_option maxRecDepth 100000 in
theorem t_L_law_446 {X : BX} {D : va_G} {cy : Nat → ClassId} {b : Nat} {r : Option Value} {μ' : MS} (hB : BB X D cy b (yLw X) cL_law 18 (some .boolean) room_1) {sa : Nat} {sc : SCR} (hS : SCX X b sa sc)  {μ : MS} {z : (Int32 × MS)} (hf : f_L_law_446 sc  μ = some z) (hk : (fun z : Int32 × MS => r = some (.int z.1) ∧ μ' = z.2) z) : WW X D cy b r μ' 18 0 0 446 [] [] μ := by
  unfold f_L_law_446 at hf
  refine r_iconst hB (v := 1) (by decide +kernel : decode cL_law 446 = .ok (.iconst 1, 1)) (by decide +kernel) ?_
  obtain rfl := Option.some.inj hf
  obtain ⟨rfl, rfl⟩ := hk
  exact r_zret hB (Or.inr rfl) (by decide +kernel : decode cL_law 447 = .ok (.ireturn, 1))
set_option maxHeartbeats 4000000 in
set_option maxRecDepth 100000 in
theorem t_L_law_438 {X : BX} {D : va_G} {cy : Nat → ClassId} {b : Nat} {r : Option Value} {μ' : MS} (hB : BB X D cy b (yLw X) cL_law 18 (some .boolean) room_1) {sa : Nat} {sc : SCR} (hS : SCX X b sa sc)  {μ : MS} {z : (Int32 × MS)} (hf : f_L_law_438 sc  μ = some z) (hk : (fun z : Int32 × MS => r = some (.int z.1) ∧ μ' = z.2) z) : WW X D cy b r μ' 18 0 0 438 [] [] μ := by
  unfold f_L_law_438 at hf
  refine r_iconst hB (v := 0) (by decide +kernel : decode cL_law 438 = .ok (.iconst 0, 1)) (by decide +kernel) ?_
  obtain rfl := Option.some.inj hf
  obtain ⟨rfl, rfl⟩ := hk
  exact r_zret hB (Or.inl rfl) (by decide +kernel : decode cL_law 439 = .ok (.ireturn, 1))
set_option maxHeartbeats 4000000 in
set_option maxRecDepth 100000 in
theorem t_L_law_398_b {X : BX} {D : va_G} {cy : Nat → ClassId} {b : Nat} {r : Option Value} {μ' : MS} (hB : BB X D cy b (yLw X) cL_law 18 (some .boolean) room_1) {sa : Nat} {sc : SCR} (hS : SCX X b sa sc) {l1 : Nat} {l3 : Int32} {l4 : Int32} {l5 : Int32} {μ : MS} {z : ((Nat × Int32 × Int32 × Int32 × MS) ⊕ (Int32 × MS))} (hf : f_L_law_398_b sc l1 l3 l4 l5 μ = some z) (hk : (Sum.elim (fun s : Nat × Int32 × Int32 × Int32 × MS => WW X D cy b r μ' 18 0 0 398 [(1, .ref (b + s.1)), (3, .int s.2.1), (4, .int s.2.2.1), (5, .int s.2.2.2.1)] [] s.2.2.2.2) (fun z : Int32 × MS => r = some (.int z.1) ∧ μ' = z.2)) z) : WW X D cy b r μ' 18 0 0 398 [(1, .ref (b + l1)), (3, .int l3), (4, .int l4), (5, .int l5)] [] μ := by
  unfold f_L_law_398_b at hf
  refine r_iload hB 3 rfl (by decide +kernel : decode cL_law 398 = .ok (.iload 5, 2)) ?_
  refine r_aload_n hB 0 rfl (by decide +kernel : decode cL_law 400 = .ok (.aload_n 1, 1)) rfl ?_
  refine r_iconst hB (v := 0) (by decide +kernel : decode cL_law 401 = .ok (.iconst 0, 1)) (by decide +kernel) ?_
  refine r_cVi hB [.int 0] [.int l5] cf11 (own := "PulseRemoteLaw") rfl cmX11_frameCount imX11_frameCount (Or.inl k_481) (by decide) rfl rfl rfl (Nat.le_of_ble_eq_true rfl) (by decide +kernel : decode cL_law 402 = .ok (.invokevirtual 41, 3)) (fun z hz => m_X11_frameCount _ _ _ _ hz) rfl hf (fun z402 hf => ?_)
  refine r_icmp_ge hB (tgt := 446) (by decide +kernel : decode cL_law 405 = .ok (.if_icmp .ge 41, 3)) (by decide) hf (fun _ hf => ?_) (fun _ hf => ?_)
  · obtain ⟨_, hx0, rfl⟩ := xr_inv hf
    exact WW.sub [] rfl (t_L_law_446 hB hS hx0 hk)
  · refine r_iload hB 2 rfl (by decide +kernel : decode cL_law 408 = .ok (.iload 4, 2)) ?_
    refine r_if_lt hB (tgt := 438) (by decide +kernel : decode cL_law 410 = .ok (.ifCond .lt 28, 3)) (by decide) hf (fun _ hf => ?_) (fun _ hf => ?_)
    · obtain ⟨_, hx0, rfl⟩ := xr_inv hf
      exact WW.sub [] rfl (t_L_law_438 hB hS hx0 hk)
    · refine r_aload_n hB 0 rfl (by decide +kernel : decode cL_law 413 = .ok (.aload_n 1, 1)) rfl ?_
      refine r_iconst hB (v := 0) (by decide +kernel : decode cL_law 414 = .ok (.iconst 0, 1)) (by decide +kernel) ?_
      refine r_iload hB 3 rfl (by decide +kernel : decode cL_law 415 = .ok (.iload 5, 2)) ?_
      refine r_iconst hB (v := 2) (by decide +kernel : decode cL_law 417 = .ok (.iconst 2, 1)) (by decide +kernel) ?_
      refine r_cVi hB [.int 0, .int l5, .int 2] [] cf11 (own := "PulseRemoteLaw") rfl cmX11_frame imX11_frame (Or.inl k_510) (by decide) rfl rfl rfl (Nat.le_of_ble_eq_true rfl) (by decide +kernel : decode cL_law 418 = .ok (.invokevirtual 130, 3)) (fun z hz => m_X11_frame _ _ _ _ hz) rfl hf (fun z418 hf => ?_)
      refine r_if_lt hB (tgt := 438) (by decide +kernel : decode cL_law 421 = .ok (.ifCond .lt 17, 3)) (by decide) hf (fun _ hf => ?_) (fun _ hf => ?_)
      · obtain ⟨_, hx0, rfl⟩ := xr_inv hf
        exact WW.sub [] rfl (t_L_law_438 hB hS hx0 hk)
      · refine r_aload_n hB 0 rfl (by decide +kernel : decode cL_law 424 = .ok (.aload_n 1, 1)) rfl ?_
        refine r_iconst hB (v := 0) (by decide +kernel : decode cL_law 425 = .ok (.iconst 0, 1)) (by decide +kernel) ?_
        refine r_iload hB 3 rfl (by decide +kernel : decode cL_law 426 = .ok (.iload 5, 2)) ?_
        refine r_cVi hB [.int 0, .int l5] [] cf11 (own := "PulseRemoteLaw") rfl cmX11_deviation imX11_deviation (Or.inl k_584) (by decide) rfl rfl rfl (Nat.le_of_ble_eq_true rfl) (by decide +kernel : decode cL_law 428 = .ok (.invokevirtual 133, 3)) (fun z hz => m_X11_deviation _ _ _ _ hz) rfl hf (fun z428 hf => ?_)
        refine r_bipush hB (v := 10) (by decide +kernel : decode cL_law 431 = .ok (.bipush 10, 2)) (by decide +kernel) ?_
        refine r_iload_n hB 1 rfl (by decide +kernel : decode cL_law 433 = .ok (.iload_n 3, 1)) rfl ?_
        refine r_imul hB (by decide +kernel : decode cL_law 434 = .ok (.imul, 1)) ?_
        refine r_icmp_le hB (tgt := 440) (by decide +kernel : decode cL_law 435 = .ok (.if_icmp .le 5, 3)) (by decide) hf (fun _ hf => ?_) (fun _ hf => ?_)
        · refine r_iincB hB 3 rfl (by decide +kernel : decode cL_law 440 = .ok (.iinc 5 1, 3)) (w := 1) (by decide +kernel) (by decide) hf (fun v440 hf => ?_)
          refine ww_lv (lv' := [(5, .int v440), (1, .ref (b + l1)), (3, .int l3), (4, .int l4)]) rfl ?_
          refine r_goto hB (tgt := 398) (by decide +kernel : decode cL_law 443 = .ok (.goto (-45), 3)) (by decide) ?_
          obtain rfl := Option.some.inj hf
          exact WW.sub [1, 2, 3, 0] rfl hk
        · obtain ⟨_, hx0, rfl⟩ := xr_inv hf
          exact WW.sub [] rfl (t_L_law_438 hB hS hx0 hk)
set_option maxHeartbeats 4000000 in
set_option maxRecDepth 100000 in
theorem t_L_law_398 {X : BX} {D : va_G} {cy : Nat → ClassId} {b : Nat} {r : Option Value} {μ' : MS} (hB : BB X D cy b (yLw X) cL_law 18 (some .boolean) room_1) {sa : Nat} {sc : SCR} (hS : SCX X b sa sc) {l1 : Nat} {l3 : Int32} {l4 : Int32} {l5 : Int32} {μ : MS} {z : (Int32 × MS)} (hf : f_L_law_398 sc l1 l3 l4 l5 μ = some z) (hk : (fun z : Int32 × MS => r = some (.int z.1) ∧ μ' = z.2) z) : WW X D cy b r μ' 18 0 0 398 [(1, .ref (b + l1)), (3, .int l3), (4, .int l4), (5, .int l5)] [] μ :=
  lp_ind (P := fun s : Nat × Int32 × Int32 × Int32 × MS => WW X D cy b r μ' 18 0 0 398 [(1, .ref (b + s.1)), (3, .int s.2.1), (4, .int s.2.2.1), (5, .int s.2.2.2.1)] [] s.2.2.2.2) (Q := (fun z : Int32 × MS => r = some (.int z.1) ∧ μ' = z.2)) (fun s z hz hk => t_L_law_398_b hB hS hz hk) (l1, l3, l4, l5, μ) z hf hk
set_option maxHeartbeats 4000000 in
set_option maxRecDepth 100000 in
theorem t_L_law_378 {X : BX} {D : va_G} {cy : Nat → ClassId} {b : Nat} {r : Option Value} {μ' : MS} (hB : BB X D cy b (yLw X) cL_law 18 (some .boolean) room_1) {sa : Nat} {sc : SCR} (hS : SCX X b sa sc) {l1 : Nat} {μ : MS} {z : (Int32 × MS)} (hf : f_L_law_378 sc l1 μ = some z) (hk : (fun z : Int32 × MS => r = some (.int z.1) ∧ μ' = z.2) z) : WW X D cy b r μ' 18 0 0 378 [(1, .ref (b + l1))] [] μ := by
  unfold f_L_law_378 at hf
  refine r_aload_n hB 0 rfl (by decide +kernel : decode cL_law 378 = .ok (.aload_n 1, 1)) rfl ?_
  refine r_iconst hB (v := 0) (by decide +kernel : decode cL_law 379 = .ok (.iconst 0, 1)) (by decide +kernel) ?_
  refine r_cVi hB [.int 0] [] cf11 (own := "PulseRemoteLaw") rfl cmX11_neededTolerance imX11_neededTolerance (Or.inl k_686) (by decide) rfl rfl rfl (Nat.le_of_ble_eq_true rfl) (by decide +kernel : decode cL_law 380 = .ok (.invokevirtual 46, 3)) (fun z hz => m_X11_neededTolerance _ _ _ _ hz) rfl hf (fun z380 hf => ?_)
  refine r_istore_n hB (by decide +kernel : decode cL_law 383 = .ok (.istore_n 3, 1)) rfl (by decide) rfl ?_
  refine ww_lv (lv' := [(3, .int z380.1), (1, .ref (b + l1))]) rfl ?_
  refine r_iload_n hB 0 rfl (by decide +kernel : decode cL_law 384 = .ok (.iload_n 3, 1)) rfl ?_
  refine r_if_lt hB (tgt := 446) (by decide +kernel : decode cL_law 385 = .ok (.ifCond .lt 61, 3)) (by decide) hf (fun _ hf => ?_) (fun _ hf => ?_)
  · refine r_iconst hB (v := 1) (by decide +kernel : decode cL_law 446 = .ok (.iconst 1, 1)) (by decide +kernel) ?_
    obtain rfl := Option.some.inj hf
    obtain ⟨rfl, rfl⟩ := hk
    exact r_zret hB (Or.inr rfl) (by decide +kernel : decode cL_law 447 = .ok (.ireturn, 1))
  · refine r_aload_n hB 1 rfl (by decide +kernel : decode cL_law 388 = .ok (.aload_n 1, 1)) rfl ?_
    refine r_iload_n hB 0 rfl (by decide +kernel : decode cL_law 389 = .ok (.iload_n 3, 1)) rfl ?_
    refine r_cVi hB [.int z380.1] [] cf11 (own := "PulseRemoteLaw") rfl cmX11_setTolerance imX11_setTolerance (Or.inl k_436) (by decide) rfl rfl rfl (Nat.le_of_ble_eq_true rfl) (by decide +kernel : decode cL_law 390 = .ok (.invokevirtual 87, 3)) (fun z hz => m_X11_setTolerance _ _ _ _ hz) rfl hf (fun z390 hf => ?_)
    refine r_istore hB (by decide +kernel : decode cL_law 393 = .ok (.istore 4, 2)) (by decide) rfl ?_
    refine ww_lv (lv' := [(4, .int z390.1), (3, .int z380.1), (1, .ref (b + l1))]) rfl ?_
    refine r_iconst hB (v := 0) (by decide +kernel : decode cL_law 395 = .ok (.iconst 0, 1)) (by decide +kernel) ?_
    refine r_istore hB (by decide +kernel : decode cL_law 396 = .ok (.istore 5, 2)) (by decide) rfl ?_
    refine ww_lv (lv' := [(5, .int 0), (4, .int z390.1), (3, .int z380.1), (1, .ref (b + l1))]) rfl ?_
    exact WW.sub [3, 2, 1, 0] rfl (t_L_law_398 hB hS hf hk)
set_option maxHeartbeats 4000000 in
set_option maxRecDepth 100000 in
theorem t_L_law_372 {X : BX} {D : va_G} {cy : Nat → ClassId} {b : Nat} {r : Option Value} {μ' : MS} (hB : BB X D cy b (yLw X) cL_law 18 (some .boolean) room_1) {sa : Nat} {sc : SCR} (hS : SCX X b sa sc) {l1 : Nat} {l2 : Int32} {l3 : Int32} {μ : MS} {z : ((Nat × Int32 × Int32 × MS) ⊕ (Int32 × MS))} (hf : f_L_law_372 sc l1 l2 l3 μ = some z) (hk : (Sum.elim (fun s : Nat × Int32 × Int32 × MS => WW X D cy b r μ' 18 0 0 12 [(0, .ref sa), (1, .ref (b + s.1)), (2, .int s.2.1), (3, .int s.2.2.1)] [] s.2.2.2) (fun z : Int32 × MS => r = some (.int z.1) ∧ μ' = z.2)) z) : WW X D cy b r μ' 18 0 0 372 [(0, .ref sa), (1, .ref (b + l1)), (2, .int l2), (3, .int l3)] [] μ := by
  unfold f_L_law_372 at hf
  refine r_iincB hB 3 rfl (by decide +kernel : decode cL_law 372 = .ok (.iinc 3 1, 3)) (w := 1) (by decide +kernel) (by decide) hf (fun v372 hf => ?_)
  refine ww_lv (lv' := [(3, .int v372), (0, .ref sa), (1, .ref (b + l1)), (2, .int l2)]) rfl ?_
  refine r_goto hB (tgt := 12) (by decide +kernel : decode cL_law 375 = .ok (.goto (-363), 3)) (by decide) ?_
  obtain rfl := Option.some.inj hf
  exact WW.sub [1, 2, 3, 0] rfl hk
set_option maxHeartbeats 4000000 in
set_option maxRecDepth 100000 in
theorem t_L_law_357 {X : BX} {D : va_G} {cy : Nat → ClassId} {b : Nat} {r : Option Value} {μ' : MS} (hB : BB X D cy b (yLw X) cL_law 18 (some .boolean) room_1) {sa : Nat} {sc : SCR} (hS : SCX X b sa sc)  {μ : MS} {z : (Int32 × MS)} (hf : f_L_law_357 sc  μ = some z) (hk : (fun z : Int32 × MS => r = some (.int z.1) ∧ μ' = z.2) z) : WW X D cy b r μ' 18 0 0 357 [] [] μ := by
  unfold f_L_law_357 at hf
  refine r_iconst hB (v := 0) (by decide +kernel : decode cL_law 357 = .ok (.iconst 0, 1)) (by decide +kernel) ?_
  obtain rfl := Option.some.inj hf
  obtain ⟨rfl, rfl⟩ := hk
  exact r_zret hB (Or.inl rfl) (by decide +kernel : decode cL_law 358 = .ok (.ireturn, 1))
set_option maxHeartbeats 4000000 in
set_option maxRecDepth 100000 in
theorem t_L_law_354 {X : BX} {D : va_G} {cy : Nat → ClassId} {b : Nat} {r : Option Value} {μ' : MS} (hB : BB X D cy b (yLw X) cL_law 18 (some .boolean) room_1) {sa : Nat} {sc : SCR} (hS : SCX X b sa sc) {l1 : Nat} {l2 : Int32} {l3 : Int32} {l8 : Int32} {l10 : Int32} {l14 : Int32} {l15 : Int32} {l16 : Int32} {l17 : Int32} {s0 : Int32} {s1 : Int32} {μ : MS} {z : ((Nat × Int32 × Int32 × Int32 × Int32 × Int32 × Int32 × Int32 × MS) ⊕ ((Nat × Int32 × Int32 × MS) ⊕ (Int32 × MS)))} (hf : f_L_law_354 sc l1 l2 l3 l8 l10 l14 l15 l16 l17 s0 s1 μ = some z) (hk : (Sum.elim (fun s : Nat × Int32 × Int32 × Int32 × Int32 × Int32 × Int32 × Int32 × MS => WW X D cy b r μ' 18 0 0 262 [(0, .ref sa), (1, .ref (b + s.1)), (2, .int s.2.1), (3, .int s.2.2.1), (8, .int s.2.2.2.1), (10, .int s.2.2.2.2.1), (13, .int s.2.2.2.2.2.1), (14, .int s.2.2.2.2.2.2.1), (15, .int s.2.2.2.2.2.2.2.1)] [] s.2.2.2.2.2.2.2.2) (Sum.elim (fun s : Nat × Int32 × Int32 × MS => WW X D cy b r μ' 18 0 0 12 [(0, .ref sa), (1, .ref (b + s.1)), (2, .int s.2.1), (3, .int s.2.2.1)] [] s.2.2.2) (fun z : Int32 × MS => r = some (.int z.1) ∧ μ' = z.2))) z) : WW X D cy b r μ' 18 0 0 354 [(0, .ref sa), (1, .ref (b + l1)), (2, .int l2), (3, .int l3), (8, .int l8), (10, .int l10), (14, .int l14), (15, .int l15), (16, .int l16), (17, .int l17)] [.int s0, .int s1] μ := by
  unfold f_L_law_354 at hf
  refine r_icmp_eq hB (tgt := 359) (by decide +kernel : decode cL_law 354 = .ok (.if_icmp .eq 5, 3)) (by decide) hf (fun _ hf => ?_) (fun _ hf => ?_)
  · refine r_iload hB 8 rfl (by decide +kernel : decode cL_law 359 = .ok (.iload 16, 2)) ?_
    refine r_iload hB 9 rfl (by decide +kernel : decode cL_law 361 = .ok (.iload 17, 2)) ?_
    refine r_iadd hB (by decide +kernel : decode cL_law 363 = .ok (.iadd, 1)) ?_
    refine r_name hf (fun v364 hf => ?_)
    refine r_istore hB (by decide +kernel : decode cL_law 364 = .ok (.istore 13, 2)) (by decide) rfl ?_
    refine ww_lv (lv' := [(13, .int v364), (0, .ref sa), (1, .ref (b + l1)), (2, .int l2), (3, .int l3), (8, .int l8), (10, .int l10), (14, .int l14), (15, .int l15), (16, .int l16), (17, .int l17)]) rfl ?_
    refine r_iincB hB 8 rfl (by decide +kernel : decode cL_law 366 = .ok (.iinc 15 1, 3)) (w := 1) (by decide +kernel) (by decide) hf (fun v366 hf => ?_)
    refine ww_lv (lv' := [(15, .int v366), (13, .int v364), (0, .ref sa), (1, .ref (b + l1)), (2, .int l2), (3, .int l3), (8, .int l8), (10, .int l10), (14, .int l14), (16, .int l16), (17, .int l17)]) rfl ?_
    refine r_goto hB (tgt := 262) (by decide +kernel : decode cL_law 369 = .ok (.goto (-107), 3)) (by decide) ?_
    obtain rfl := Option.some.inj hf
    exact WW.sub [2, 3, 4, 5, 6, 7, 1, 8, 0] rfl hk
  · obtain ⟨_, hx0, rfl⟩ := xr_inv hf
    obtain ⟨_, hx1, rfl⟩ := xr_inv hx0
    exact WW.sub [] rfl (t_L_law_357 hB hS hx1 hk)
set_option maxHeartbeats 4000000 in
set_option maxRecDepth 100000 in
theorem t_L_law_338 {X : BX} {D : va_G} {cy : Nat → ClassId} {b : Nat} {r : Option Value} {μ' : MS} (hB : BB X D cy b (yLw X) cL_law 18 (some .boolean) room_1) {sa : Nat} {sc : SCR} (hS : SCX X b sa sc) {l1 : Nat} {l2 : Int32} {l3 : Int32} {l8 : Int32} {l10 : Int32} {l14 : Int32} {l15 : Int32} {l16 : Int32} {l17 : Int32} {s0 : Int32} {μ : MS} {z : ((Nat × Int32 × Int32 × Int32 × Int32 × Int32 × Int32 × Int32 × MS) ⊕ ((Nat × Int32 × Int32 × MS) ⊕ (Int32 × MS)))} (hf : f_L_law_338 sc l1 l2 l3 l8 l10 l14 l15 l16 l17 s0 μ = some z) (hk : (Sum.elim (fun s : Nat × Int32 × Int32 × Int32 × Int32 × Int32 × Int32 × Int32 × MS => WW X D cy b r μ' 18 0 0 262 [(0, .ref sa), (1, .ref (b + s.1)), (2, .int s.2.1), (3, .int s.2.2.1), (8, .int s.2.2.2.1), (10, .int s.2.2.2.2.1), (13, .int s.2.2.2.2.2.1), (14, .int s.2.2.2.2.2.2.1), (15, .int s.2.2.2.2.2.2.2.1)] [] s.2.2.2.2.2.2.2.2) (Sum.elim (fun s : Nat × Int32 × Int32 × MS => WW X D cy b r μ' 18 0 0 12 [(0, .ref sa), (1, .ref (b + s.1)), (2, .int s.2.1), (3, .int s.2.2.1)] [] s.2.2.2) (fun z : Int32 × MS => r = some (.int z.1) ∧ μ' = z.2))) z) : WW X D cy b r μ' 18 0 0 338 [(0, .ref sa), (1, .ref (b + l1)), (2, .int l2), (3, .int l3), (8, .int l8), (10, .int l10), (14, .int l14), (15, .int l15), (16, .int l16), (17, .int l17)] [.int s0] μ := by
  unfold f_L_law_338 at hf
  refine r_aload_n hB 1 rfl (by decide +kernel : decode cL_law 338 = .ok (.aload_n 1, 1)) rfl ?_
  refine r_iload hB 4 rfl (by decide +kernel : decode cL_law 339 = .ok (.iload 8, 2)) ?_
  refine r_iload hB 7 rfl (by decide +kernel : decode cL_law 341 = .ok (.iload 15, 2)) ?_
  refine r_cVi hB [.int l8, .int l15] [.int s0] cf11 (own := "PulseRemoteLaw") rfl cmX11_deviation imX11_deviation (Or.inl k_584) (by decide) rfl rfl rfl (Nat.le_of_ble_eq_true rfl) (by decide +kernel : decode cL_law 343 = .ok (.invokevirtual 133, 3)) (fun z hz => m_X11_deviation _ _ _ _ hz) rfl hf (fun z343 hf => ?_)
  refine r_if_ge hB (tgt := 353) (by decide +kernel : decode cL_law 346 = .ok (.ifCond .ge 7, 3)) (by decide) hf (fun _ hf => ?_) (fun _ hf => ?_)
  · refine r_iconst hB (v := 0) (by decide +kernel : decode cL_law 353 = .ok (.iconst 0, 1)) (by decide +kernel) ?_
    exact WW.sub [0, 1, 2, 3, 4, 5, 6, 7, 8, 9] rfl (t_L_law_354 hB hS hf hk)
  · refine r_iconst hB (v := 1) (by decide +kernel : decode cL_law 349 = .ok (.iconst 1, 1)) (by decide +kernel) ?_
    refine r_goto hB (tgt := 354) (by decide +kernel : decode cL_law 350 = .ok (.goto 4, 3)) (by decide) ?_
    exact WW.sub [0, 1, 2, 3, 4, 5, 6, 7, 8, 9] rfl (t_L_law_354 hB hS hf hk)
set_option maxHeartbeats 4000000 in
set_option maxRecDepth 100000 in
theorem t_L_law_262_b {X : BX} {D : va_G} {cy : Nat → ClassId} {b : Nat} {r : Option Value} {μ' : MS} (hB : BB X D cy b (yLw X) cL_law 18 (some .boolean) room_1) {sa : Nat} {sc : SCR} (hS : SCX X b sa sc) {l1 : Nat} {l2 : Int32} {l3 : Int32} {l8 : Int32} {l10 : Int32} {l13 : Int32} {l14 : Int32} {l15 : Int32} {μ : MS} {z : ((Nat × Int32 × Int32 × Int32 × Int32 × Int32 × Int32 × Int32 × MS) ⊕ ((Nat × Int32 × Int32 × MS) ⊕ (Int32 × MS)))} (hf : f_L_law_262_b sc l1 l2 l3 l8 l10 l13 l14 l15 μ = some z) (hk : (Sum.elim (fun s : Nat × Int32 × Int32 × Int32 × Int32 × Int32 × Int32 × Int32 × MS => WW X D cy b r μ' 18 0 0 262 [(0, .ref sa), (1, .ref (b + s.1)), (2, .int s.2.1), (3, .int s.2.2.1), (8, .int s.2.2.2.1), (10, .int s.2.2.2.2.1), (13, .int s.2.2.2.2.2.1), (14, .int s.2.2.2.2.2.2.1), (15, .int s.2.2.2.2.2.2.2.1)] [] s.2.2.2.2.2.2.2.2) (Sum.elim (fun s : Nat × Int32 × Int32 × MS => WW X D cy b r μ' 18 0 0 12 [(0, .ref sa), (1, .ref (b + s.1)), (2, .int s.2.1), (3, .int s.2.2.1)] [] s.2.2.2) (fun z : Int32 × MS => r = some (.int z.1) ∧ μ' = z.2))) z) : WW X D cy b r μ' 18 0 0 262 [(0, .ref sa), (1, .ref (b + l1)), (2, .int l2), (3, .int l3), (8, .int l8), (10, .int l10), (13, .int l13), (14, .int l14), (15, .int l15)] [] μ := by
  unfold f_L_law_262_b at hf
  refine r_iload hB 8 rfl (by decide +kernel : decode cL_law 262 = .ok (.iload 15, 2)) ?_
  refine r_iload hB 5 rfl (by decide +kernel : decode cL_law 264 = .ok (.iload 10, 2)) ?_
  refine r_icmp_ge hB (tgt := 372) (by decide +kernel : decode cL_law 266 = .ok (.if_icmp .ge 106, 3)) (by decide) hf (fun _ hf => ?_) (fun _ hf => ?_)
  · obtain ⟨_, hx0, rfl⟩ := xr_inv hf
    exact WW.sub [0, 1, 2, 3] rfl (t_L_law_372 hB hS hx0 hk)
  · refine r_iload hB 8 rfl (by decide +kernel : decode cL_law 269 = .ok (.iload 15, 2)) ?_
    refine r_iload hB 7 rfl (by decide +kernel : decode cL_law 271 = .ok (.iload 14, 2)) ?_
    refine r_iconst hB (v := 2) (by decide +kernel : decode cL_law 273 = .ok (.iconst 2, 1)) (by decide +kernel) ?_
    refine r_iadd hB (by decide +kernel : decode cL_law 274 = .ok (.iadd, 1)) ?_
    refine r_icmp_ge hB (tgt := 372) (by decide +kernel : decode cL_law 275 = .ok (.if_icmp .ge 97, 3)) (by decide) hf (fun _ hf => ?_) (fun _ hf => ?_)
    · obtain ⟨_, hx0, rfl⟩ := xr_inv hf
      exact WW.sub [0, 1, 2, 3] rfl (t_L_law_372 hB hS hx0 hk)
    · refine r_aload_n hB 1 rfl (by decide +kernel : decode cL_law 278 = .ok (.aload_n 1, 1)) rfl ?_
      refine r_iload hB 4 rfl (by decide +kernel : decode cL_law 279 = .ok (.iload 8, 2)) ?_
      refine r_iload hB 8 rfl (by decide +kernel : decode cL_law 281 = .ok (.iload 15, 2)) ?_
      refine r_iconst hB (v := 0) (by decide +kernel : decode cL_law 283 = .ok (.iconst 0, 1)) (by decide +kernel) ?_
      refine r_cVi hB [.int l8, .int l15, .int 0] [] cf11 (own := "PulseRemoteLaw") rfl cmX11_frame imX11_frame (Or.inl k_510) (by decide) rfl rfl rfl (Nat.le_of_ble_eq_true rfl) (by decide +kernel : decode cL_law 284 = .ok (.invokevirtual 130, 3)) (fun z hz => m_X11_frame _ _ _ _ hz) rfl hf (fun z284 hf => ?_)
      refine r_istore hB (by decide +kernel : decode cL_law 287 = .ok (.istore 16, 2)) (by decide) rfl ?_
      refine ww_lv (lv' := [(16, .int z284.1), (0, .ref sa), (1, .ref (b + l1)), (2, .int l2), (3, .int l3), (8, .int l8), (10, .int l10), (13, .int l13), (14, .int l14), (15, .int l15)]) rfl ?_
      refine r_aload_n hB 2 rfl (by decide +kernel : decode cL_law 289 = .ok (.aload_n 1, 1)) rfl ?_
      refine r_iload hB 5 rfl (by decide +kernel : decode cL_law 290 = .ok (.iload 8, 2)) ?_
      refine r_iload hB 9 rfl (by decide +kernel : decode cL_law 292 = .ok (.iload 15, 2)) ?_
      refine r_iconst hB (v := 1) (by decide +kernel : decode cL_law 294 = .ok (.iconst 1, 1)) (by decide +kernel) ?_
      refine r_cVi hB [.int l8, .int l15, .int 1] [] cf11 (own := "PulseRemoteLaw") rfl cmX11_frame imX11_frame (Or.inl k_510) (by decide) rfl rfl rfl (Nat.le_of_ble_eq_true rfl) (by decide +kernel : decode cL_law 295 = .ok (.invokevirtual 130, 3)) (fun z hz => m_X11_frame _ _ _ _ hz) rfl hf (fun z295 hf => ?_)
      refine r_istore hB (by decide +kernel : decode cL_law 298 = .ok (.istore 17, 2)) (by decide) rfl ?_
      refine ww_lv (lv' := [(17, .int z295.1), (16, .int z284.1), (0, .ref sa), (1, .ref (b + l1)), (2, .int l2), (3, .int l3), (8, .int l8), (10, .int l10), (13, .int l13), (14, .int l14), (15, .int l15)]) rfl ?_
      refine r_iload hB 1 rfl (by decide +kernel : decode cL_law 300 = .ok (.iload 16, 2)) ?_
      refine r_iconst hB (v := 2) (by decide +kernel : decode cL_law 302 = .ok (.iconst 2, 1)) (by decide +kernel) ?_
      refine r_irem hB (by decide +kernel : decode cL_law 303 = .ok (.irem, 1)) hf (fun v303 hf => ?_)
      refine r_if_ne hB (tgt := 357) (by decide +kernel : decode cL_law 304 = .ok (.ifCond .ne 53, 3)) (by decide) hf (fun _ hf => ?_) (fun _ hf => ?_)
      · refine r_iload hB 0 rfl (by decide +kernel : decode cL_law 307 = .ok (.iload 17, 2)) ?_
        refine r_iconst hB (v := 2) (by decide +kernel : decode cL_law 309 = .ok (.iconst 2, 1)) (by decide +kernel) ?_
        refine r_irem hB (by decide +kernel : decode cL_law 310 = .ok (.irem, 1)) hf (fun v310 hf => ?_)
        refine r_if_eq hB (tgt := 357) (by decide +kernel : decode cL_law 311 = .ok (.ifCond .eq 46, 3)) (by decide) hf (fun _ hf => ?_) (fun _ hf => ?_)
        · obtain ⟨_, hx0, rfl⟩ := xr_inv hf
          obtain ⟨_, hx1, rfl⟩ := xr_inv hx0
          exact WW.sub [] rfl (t_L_law_357 hB hS hx1 hk)
        · refine r_iload hB 1 rfl (by decide +kernel : decode cL_law 314 = .ok (.iload 16, 2)) ?_
          refine r_iload hB 8 rfl (by decide +kernel : decode cL_law 316 = .ok (.iload 13, 2)) ?_
          refine r_icmp_le hB (tgt := 357) (by decide +kernel : decode cL_law 318 = .ok (.if_icmp .le 39, 3)) (by decide) hf (fun _ hf => ?_) (fun _ hf => ?_)
          · obtain ⟨_, hx0, rfl⟩ := xr_inv hf
            obtain ⟨_, hx1, rfl⟩ := xr_inv hx0
            exact WW.sub [] rfl (t_L_law_357 hB hS hx1 hk)
          · refine r_aload_n hB 3 rfl (by decide +kernel : decode cL_law 321 = .ok (.aload_n 1, 1)) rfl ?_
            refine r_iload hB 6 rfl (by decide +kernel : decode cL_law 322 = .ok (.iload 8, 2)) ?_
            refine r_iload hB 10 rfl (by decide +kernel : decode cL_law 324 = .ok (.iload 15, 2)) ?_
            refine r_iconst hB (v := 2) (by decide +kernel : decode cL_law 326 = .ok (.iconst 2, 1)) (by decide +kernel) ?_
            refine r_cVi hB [.int l8, .int l15, .int 2] [] cf11 (own := "PulseRemoteLaw") rfl cmX11_frame imX11_frame (Or.inl k_510) (by decide) rfl rfl rfl (Nat.le_of_ble_eq_true rfl) (by decide +kernel : decode cL_law 327 = .ok (.invokevirtual 130, 3)) (fun z hz => m_X11_frame _ _ _ _ hz) rfl hf (fun z327 hf => ?_)
            refine r_if_ge hB (tgt := 337) (by decide +kernel : decode cL_law 330 = .ok (.ifCond .ge 7, 3)) (by decide) hf (fun _ hf => ?_) (fun _ hf => ?_)
            · refine r_iconst hB (v := 0) (by decide +kernel : decode cL_law 337 = .ok (.iconst 0, 1)) (by decide +kernel) ?_
              exact WW.sub [2, 3, 4, 5, 6, 7, 9, 10, 1, 0] rfl (t_L_law_338 hB hS hf hk)
            · refine r_iconst hB (v := 1) (by decide +kernel : decode cL_law 333 = .ok (.iconst 1, 1)) (by decide +kernel) ?_
              refine r_goto hB (tgt := 338) (by decide +kernel : decode cL_law 334 = .ok (.goto 4, 3)) (by decide) ?_
              exact WW.sub [2, 3, 4, 5, 6, 7, 9, 10, 1, 0] rfl (t_L_law_338 hB hS hf hk)
      · obtain ⟨_, hx0, rfl⟩ := xr_inv hf
        obtain ⟨_, hx1, rfl⟩ := xr_inv hx0
        exact WW.sub [] rfl (t_L_law_357 hB hS hx1 hk)
set_option maxHeartbeats 4000000 in
set_option maxRecDepth 100000 in
theorem t_L_law_262 {X : BX} {D : va_G} {cy : Nat → ClassId} {b : Nat} {r : Option Value} {μ' : MS} (hB : BB X D cy b (yLw X) cL_law 18 (some .boolean) room_1) {sa : Nat} {sc : SCR} (hS : SCX X b sa sc) {l1 : Nat} {l2 : Int32} {l3 : Int32} {l8 : Int32} {l10 : Int32} {l13 : Int32} {l14 : Int32} {l15 : Int32} {μ : MS} {z : ((Nat × Int32 × Int32 × MS) ⊕ (Int32 × MS))} (hf : f_L_law_262 sc l1 l2 l3 l8 l10 l13 l14 l15 μ = some z) (hk : (Sum.elim (fun s : Nat × Int32 × Int32 × MS => WW X D cy b r μ' 18 0 0 12 [(0, .ref sa), (1, .ref (b + s.1)), (2, .int s.2.1), (3, .int s.2.2.1)] [] s.2.2.2) (fun z : Int32 × MS => r = some (.int z.1) ∧ μ' = z.2)) z) : WW X D cy b r μ' 18 0 0 262 [(0, .ref sa), (1, .ref (b + l1)), (2, .int l2), (3, .int l3), (8, .int l8), (10, .int l10), (13, .int l13), (14, .int l14), (15, .int l15)] [] μ :=
  lp_ind (P := fun s : Nat × Int32 × Int32 × Int32 × Int32 × Int32 × Int32 × Int32 × MS => WW X D cy b r μ' 18 0 0 262 [(0, .ref sa), (1, .ref (b + s.1)), (2, .int s.2.1), (3, .int s.2.2.1), (8, .int s.2.2.2.1), (10, .int s.2.2.2.2.1), (13, .int s.2.2.2.2.2.1), (14, .int s.2.2.2.2.2.2.1), (15, .int s.2.2.2.2.2.2.2.1)] [] s.2.2.2.2.2.2.2.2) (Q := (Sum.elim (fun s : Nat × Int32 × Int32 × MS => WW X D cy b r μ' 18 0 0 12 [(0, .ref sa), (1, .ref (b + s.1)), (2, .int s.2.1), (3, .int s.2.2.1)] [] s.2.2.2) (fun z : Int32 × MS => r = some (.int z.1) ∧ μ' = z.2))) (fun s z hz hk => t_L_law_262_b hB hS hz hk) (l1, l2, l3, l8, l10, l13, l14, l15, μ) z hf hk
set_option maxHeartbeats 4000000 in
set_option maxRecDepth 100000 in
theorem t_L_law_256 {X : BX} {D : va_G} {cy : Nat → ClassId} {b : Nat} {r : Option Value} {μ' : MS} (hB : BB X D cy b (yLw X) cL_law 18 (some .boolean) room_1) {sa : Nat} {sc : SCR} (hS : SCX X b sa sc) {l1 : Nat} {l2 : Int32} {l3 : Int32} {l8 : Int32} {l10 : Int32} {l13 : Int32} {s0 : Int32} {μ : MS} {z : ((Nat × Int32 × Int32 × MS) ⊕ (Int32 × MS))} (hf : f_L_law_256 sc l1 l2 l3 l8 l10 l13 s0 μ = some z) (hk : (Sum.elim (fun s : Nat × Int32 × Int32 × MS => WW X D cy b r μ' 18 0 0 12 [(0, .ref sa), (1, .ref (b + s.1)), (2, .int s.2.1), (3, .int s.2.2.1)] [] s.2.2.2) (fun z : Int32 × MS => r = some (.int z.1) ∧ μ' = z.2)) z) : WW X D cy b r μ' 18 0 0 256 [(0, .ref sa), (1, .ref (b + l1)), (2, .int l2), (3, .int l3), (8, .int l8), (10, .int l10), (13, .int l13)] [.int s0] μ := by
  unfold f_L_law_256 at hf
  refine r_istore hB (by decide +kernel : decode cL_law 256 = .ok (.istore 14, 2)) (by decide) rfl ?_
  refine ww_lv (lv' := [(14, .int s0), (0, .ref sa), (1, .ref (b + l1)), (2, .int l2), (3, .int l3), (8, .int l8), (10, .int l10), (13, .int l13)]) rfl ?_
  refine r_iload hB 0 rfl (by decide +kernel : decode cL_law 258 = .ok (.iload 14, 2)) ?_
  refine r_istore hB (by decide +kernel : decode cL_law 260 = .ok (.istore 15, 2)) (by decide) rfl ?_
  refine ww_lv (lv' := [(15, .int s0), (14, .int s0), (0, .ref sa), (1, .ref (b + l1)), (2, .int l2), (3, .int l3), (8, .int l8), (10, .int l10), (13, .int l13)]) rfl ?_
  exact WW.sub [2, 3, 4, 5, 6, 7, 8, 1, 0] rfl (t_L_law_262 hB hS hf hk)
set_option maxHeartbeats 4000000 in
set_option maxRecDepth 100000 in
theorem t_L_law_235 {X : BX} {D : va_G} {cy : Nat → ClassId} {b : Nat} {r : Option Value} {μ' : MS} (hB : BB X D cy b (yLw X) cL_law 18 (some .boolean) room_1) {sa : Nat} {sc : SCR} (hS : SCX X b sa sc) {l1 : Nat} {l2 : Int32} {l3 : Int32} {l4 : Int32} {l8 : Int32} {l10 : Int32} {μ : MS} {z : ((Nat × Int32 × Int32 × MS) ⊕ (Int32 × MS))} (hf : f_L_law_235 sc l1 l2 l3 l4 l8 l10 μ = some z) (hk : (Sum.elim (fun s : Nat × Int32 × Int32 × MS => WW X D cy b r μ' 18 0 0 12 [(0, .ref sa), (1, .ref (b + s.1)), (2, .int s.2.1), (3, .int s.2.2.1)] [] s.2.2.2) (fun z : Int32 × MS => r = some (.int z.1) ∧ μ' = z.2)) z) : WW X D cy b r μ' 18 0 0 235 [(0, .ref sa), (1, .ref (b + l1)), (2, .int l2), (3, .int l3), (4, .int l4), (8, .int l8), (10, .int l10)] [] μ := by
  unfold f_L_law_235 at hf
  refine r_iconst hB (v := (-1)) (by decide +kernel : decode cL_law 235 = .ok (.iconst (-1), 1)) (by decide +kernel) ?_
  refine r_istore hB (by decide +kernel : decode cL_law 236 = .ok (.istore 13, 2)) (by decide) rfl ?_
  refine ww_lv (lv' := [(13, .int ((-1))), (0, .ref sa), (1, .ref (b + l1)), (2, .int l2), (3, .int l3), (4, .int l4), (8, .int l8), (10, .int l10)]) rfl ?_
  refine r_iload hB 7 rfl (by decide +kernel : decode cL_law 238 = .ok (.iload 10, 2)) ?_
  refine r_if_ne hB (tgt := 247) (by decide +kernel : decode cL_law 240 = .ok (.ifCond .ne 7, 3)) (by decide) hf (fun _ hf => ?_) (fun _ hf => ?_)
  · refine r_iconst hB (v := 0) (by decide +kernel : decode cL_law 243 = .ok (.iconst 0, 1)) (by decide +kernel) ?_
    refine r_goto hB (tgt := 256) (by decide +kernel : decode cL_law 244 = .ok (.goto 12, 3)) (by decide) ?_
    exact WW.sub [1, 2, 3, 4, 6, 7, 0] rfl (t_L_law_256 hB hS hf hk)
  · refine r_iload hB 5 rfl (by decide +kernel : decode cL_law 247 = .ok (.iload 4, 2)) ?_
    refine r_iconst hB (v := 5) (by decide +kernel : decode cL_law 249 = .ok (.iconst 5, 1)) (by decide +kernel) ?_
    refine r_ishr hB (by decide +kernel : decode cL_law 250 = .ok (.ishr, 1)) ?_
    refine r_iload hB 7 rfl (by decide +kernel : decode cL_law 251 = .ok (.iload 10, 2)) ?_
    refine r_cSi hB [.int (l4 >>> (5 &&& 31)), .int l10] [] (own := "PulseRemoteLaw") rfl cmL_low smL_low (Or.inl ⟨rfl, k_701⟩) (by decide) rfl rfl rfl (Nat.le_of_ble_eq_true rfl) (by decide +kernel : decode cL_law 253 = .ok (.invokestatic 61, 3)) (fun z hz => m_L_low _ _ _ _ hz) rfl hf (fun z253 hf => ?_)
    exact WW.sub [1, 2, 3, 4, 6, 7, 0] rfl (t_L_law_256 hB hS hf hk)
set_option maxHeartbeats 4000000 in
set_option maxRecDepth 100000 in
theorem t_L_law_233 {X : BX} {D : va_G} {cy : Nat → ClassId} {b : Nat} {r : Option Value} {μ' : MS} (hB : BB X D cy b (yLw X) cL_law 18 (some .boolean) room_1) {sa : Nat} {sc : SCR} (hS : SCX X b sa sc)  {μ : MS} {z : (Int32 × MS)} (hf : f_L_law_233 sc  μ = some z) (hk : (fun z : Int32 × MS => r = some (.int z.1) ∧ μ' = z.2) z) : WW X D cy b r μ' 18 0 0 233 [] [] μ := by
  unfold f_L_law_233 at hf
  refine r_iconst hB (v := 0) (by decide +kernel : decode cL_law 233 = .ok (.iconst 0, 1)) (by decide +kernel) ?_
  obtain rfl := Option.some.inj hf
  obtain ⟨rfl, rfl⟩ := hk
  exact r_zret hB (Or.inl rfl) (by decide +kernel : decode cL_law 234 = .ok (.ireturn, 1))
set_option maxHeartbeats 4000000 in
set_option maxRecDepth 100000 in
theorem t_L_law_214 {X : BX} {D : va_G} {cy : Nat → ClassId} {b : Nat} {r : Option Value} {μ' : MS} (hB : BB X D cy b (yLw X) cL_law 18 (some .boolean) room_1) {sa : Nat} {sc : SCR} (hS : SCX X b sa sc) {l1 : Nat} {l2 : Int32} {l3 : Int32} {l4 : Int32} {l8 : Int32} {l9 : Int32} {l10 : Int32} {l11 : Int32} {l12 : Int32} {μ : MS} {z : ((Nat × Int32 × Int32 × MS) ⊕ (Int32 × MS))} (hf : f_L_law_214 sc l1 l2 l3 l4 l8 l9 l10 l11 l12 μ = some z) (hk : (Sum.elim (fun s : Nat × Int32 × Int32 × MS => WW X D cy b r μ' 18 0 0 12 [(0, .ref sa), (1, .ref (b + s.1)), (2, .int s.2.1), (3, .int s.2.2.1)] [] s.2.2.2) (fun z : Int32 × MS => r = some (.int z.1) ∧ μ' = z.2)) z) : WW X D cy b r μ' 18 0 0 214 [(0, .ref sa), (1, .ref (b + l1)), (2, .int l2), (3, .int l3), (4, .int l4), (8, .int l8), (9, .int l9), (10, .int l10), (11, .int l11), (12, .int l12)] [] μ := by
  unfold f_L_law_214 at hf
  refine r_iload hB 9 rfl (by decide +kernel : decode cL_law 214 = .ok (.iload 12, 2)) ?_
  refine r_if_eq hB (tgt := 235) (by decide +kernel : decode cL_law 216 = .ok (.ifCond .eq 19, 3)) (by decide) hf (fun _ hf => ?_) (fun _ hf => ?_)
  · exact WW.sub [0, 1, 2, 3, 4, 5, 7] rfl (t_L_law_235 hB hS hf hk)
  · refine r_iload hB 8 rfl (by decide +kernel : decode cL_law 219 = .ok (.iload 11, 2)) ?_
    refine r_bipush hB (v := 30) (by decide +kernel : decode cL_law 221 = .ok (.bipush 30, 2)) (by decide +kernel) ?_
    refine r_icmp_ge hB (tgt := 235) (by decide +kernel : decode cL_law 223 = .ok (.if_icmp .ge 12, 3)) (by decide) hf (fun _ hf => ?_) (fun _ hf => ?_)
    · exact WW.sub [0, 1, 2, 3, 4, 5, 7] rfl (t_L_law_235 hB hS hf hk)
    · refine r_iload hB 6 rfl (by decide +kernel : decode cL_law 226 = .ok (.iload 9, 2)) ?_
      refine r_iload hB 7 rfl (by decide +kernel : decode cL_law 228 = .ok (.iload 10, 2)) ?_
      refine r_icmp_eq hB (tgt := 235) (by decide +kernel : decode cL_law 230 = .ok (.if_icmp .eq 5, 3)) (by decide) hf (fun _ hf => ?_) (fun _ hf => ?_)
      · exact WW.sub [0, 1, 2, 3, 4, 5, 7] rfl (t_L_law_235 hB hS hf hk)
      · obtain ⟨_, hx0, rfl⟩ := xr_inv hf
        exact WW.sub [] rfl (t_L_law_233 hB hS hx0 hk)
set_option maxHeartbeats 4000000 in
set_option maxRecDepth 100000 in
theorem t_L_law_182_b {X : BX} {D : va_G} {cy : Nat → ClassId} {b : Nat} {r : Option Value} {μ' : MS} (hB : BB X D cy b (yLw X) cL_law 18 (some .boolean) room_1) {sa : Nat} {sc : SCR} (hS : SCX X b sa sc) {l1 : Nat} {l2 : Int32} {l3 : Int32} {l4 : Int32} {l8 : Int32} {l9 : Int32} {l10 : Int32} {l11 : Int32} {l12 : Int32} {l13 : Int32} {μ : MS} {z : ((Nat × Int32 × Int32 × Int32 × Int32 × Int32 × Int32 × Int32 × Int32 × Int32 × MS) ⊕ ((Nat × Int32 × Int32 × MS) ⊕ (Int32 × MS)))} (hf : f_L_law_182_b sc l1 l2 l3 l4 l8 l9 l10 l11 l12 l13 μ = some z) (hk : (Sum.elim (fun s : Nat × Int32 × Int32 × Int32 × Int32 × Int32 × Int32 × Int32 × Int32 × Int32 × MS => WW X D cy b r μ' 18 0 0 182 [(0, .ref sa), (1, .ref (b + s.1)), (2, .int s.2.1), (3, .int s.2.2.1), (4, .int s.2.2.2.1), (8, .int s.2.2.2.2.1), (9, .int s.2.2.2.2.2.1), (10, .int s.2.2.2.2.2.2.1), (11, .int s.2.2.2.2.2.2.2.1), (12, .int s.2.2.2.2.2.2.2.2.1), (13, .int s.2.2.2.2.2.2.2.2.2.1)] [] s.2.2.2.2.2.2.2.2.2.2) (Sum.elim (fun s : Nat × Int32 × Int32 × MS => WW X D cy b r μ' 18 0 0 12 [(0, .ref sa), (1, .ref (b + s.1)), (2, .int s.2.1), (3, .int s.2.2.1)] [] s.2.2.2) (fun z : Int32 × MS => r = some (.int z.1) ∧ μ' = z.2))) z) : WW X D cy b r μ' 18 0 0 182 [(0, .ref sa), (1, .ref (b + l1)), (2, .int l2), (3, .int l3), (4, .int l4), (8, .int l8), (9, .int l9), (10, .int l10), (11, .int l11), (12, .int l12), (13, .int l13)] [] μ := by
  unfold f_L_law_182_b at hf
  refine r_iload hB 10 rfl (by decide +kernel : decode cL_law 182 = .ok (.iload 13, 2)) ?_
  refine r_iload hB 8 rfl (by decide +kernel : decode cL_law 184 = .ok (.iload 11, 2)) ?_
  refine r_icmp_ge hB (tgt := 214) (by decide +kernel : decode cL_law 186 = .ok (.if_icmp .ge 28, 3)) (by decide) hf (fun _ hf => ?_) (fun _ hf => ?_)
  · obtain ⟨_, hx0, rfl⟩ := xr_inv hf
    exact WW.sub [0, 1, 2, 3, 4, 5, 6, 7, 8, 9] rfl (t_L_law_214 hB hS hx0 hk)
  · refine r_iload hB 9 rfl (by decide +kernel : decode cL_law 189 = .ok (.iload 12, 2)) ?_
    refine r_if_eq hB (tgt := 214) (by decide +kernel : decode cL_law 191 = .ok (.ifCond .eq 23, 3)) (by decide) hf (fun _ hf => ?_) (fun _ hf => ?_)
    · obtain ⟨_, hx0, rfl⟩ := xr_inv hf
      exact WW.sub [0, 1, 2, 3, 4, 5, 6, 7, 8, 9] rfl (t_L_law_214 hB hS hx0 hk)
    · refine r_iload hB 6 rfl (by decide +kernel : decode cL_law 194 = .ok (.iload 9, 2)) ?_
      refine r_aload_n hB 1 rfl (by decide +kernel : decode cL_law 196 = .ok (.aload_n 1, 1)) rfl ?_
      refine r_iload hB 5 rfl (by decide +kernel : decode cL_law 197 = .ok (.iload 8, 2)) ?_
      refine r_iload hB 10 rfl (by decide +kernel : decode cL_law 199 = .ok (.iload 13, 2)) ?_
      refine r_iconst hB (v := 2) (by decide +kernel : decode cL_law 201 = .ok (.iconst 2, 1)) (by decide +kernel) ?_
      refine r_cVi hB [.int l8, .int l13, .int 2] [.int l9] cf11 (own := "PulseRemoteLaw") rfl cmX11_press imX11_press (Or.inl k_653) (by decide) rfl rfl rfl (Nat.le_of_ble_eq_true rfl) (by decide +kernel : decode cL_law 202 = .ok (.invokevirtual 127, 3)) (fun z hz => m_X11_press _ _ _ _ hz) rfl hf (fun z202 hf => ?_)
      refine r_iadd hB (by decide +kernel : decode cL_law 205 = .ok (.iadd, 1)) ?_
      refine r_name hf (fun v206 hf => ?_)
      refine r_istore hB (by decide +kernel : decode cL_law 206 = .ok (.istore 9, 2)) (by decide) rfl ?_
      refine ww_lv (lv' := [(9, .int v206), (0, .ref sa), (1, .ref (b + l1)), (2, .int l2), (3, .int l3), (4, .int l4), (8, .int l8), (10, .int l10), (11, .int l11), (12, .int l12), (13, .int l13)]) rfl ?_
      refine r_iincB hB 10 rfl (by decide +kernel : decode cL_law 208 = .ok (.iinc 13 1, 3)) (w := 1) (by decide +kernel) (by decide) hf (fun v208 hf => ?_)
      refine ww_lv (lv' := [(13, .int v208), (9, .int v206), (0, .ref sa), (1, .ref (b + l1)), (2, .int l2), (3, .int l3), (4, .int l4), (8, .int l8), (10, .int l10), (11, .int l11), (12, .int l12)]) rfl ?_
      refine r_goto hB (tgt := 182) (by decide +kernel : decode cL_law 211 = .ok (.goto (-29), 3)) (by decide) ?_
      obtain rfl := Option.some.inj hf
      exact WW.sub [2, 3, 4, 5, 6, 7, 1, 8, 9, 10, 0] rfl hk
set_option maxHeartbeats 4000000 in
set_option maxRecDepth 100000 in
theorem t_L_law_182 {X : BX} {D : va_G} {cy : Nat → ClassId} {b : Nat} {r : Option Value} {μ' : MS} (hB : BB X D cy b (yLw X) cL_law 18 (some .boolean) room_1) {sa : Nat} {sc : SCR} (hS : SCX X b sa sc) {l1 : Nat} {l2 : Int32} {l3 : Int32} {l4 : Int32} {l8 : Int32} {l9 : Int32} {l10 : Int32} {l11 : Int32} {l12 : Int32} {l13 : Int32} {μ : MS} {z : ((Nat × Int32 × Int32 × MS) ⊕ (Int32 × MS))} (hf : f_L_law_182 sc l1 l2 l3 l4 l8 l9 l10 l11 l12 l13 μ = some z) (hk : (Sum.elim (fun s : Nat × Int32 × Int32 × MS => WW X D cy b r μ' 18 0 0 12 [(0, .ref sa), (1, .ref (b + s.1)), (2, .int s.2.1), (3, .int s.2.2.1)] [] s.2.2.2) (fun z : Int32 × MS => r = some (.int z.1) ∧ μ' = z.2)) z) : WW X D cy b r μ' 18 0 0 182 [(0, .ref sa), (1, .ref (b + l1)), (2, .int l2), (3, .int l3), (4, .int l4), (8, .int l8), (9, .int l9), (10, .int l10), (11, .int l11), (12, .int l12), (13, .int l13)] [] μ :=
  lp_ind (P := fun s : Nat × Int32 × Int32 × Int32 × Int32 × Int32 × Int32 × Int32 × Int32 × Int32 × MS => WW X D cy b r μ' 18 0 0 182 [(0, .ref sa), (1, .ref (b + s.1)), (2, .int s.2.1), (3, .int s.2.2.1), (4, .int s.2.2.2.1), (8, .int s.2.2.2.2.1), (9, .int s.2.2.2.2.2.1), (10, .int s.2.2.2.2.2.2.1), (11, .int s.2.2.2.2.2.2.2.1), (12, .int s.2.2.2.2.2.2.2.2.1), (13, .int s.2.2.2.2.2.2.2.2.2.1)] [] s.2.2.2.2.2.2.2.2.2.2) (Q := (Sum.elim (fun s : Nat × Int32 × Int32 × MS => WW X D cy b r μ' 18 0 0 12 [(0, .ref sa), (1, .ref (b + s.1)), (2, .int s.2.1), (3, .int s.2.2.1)] [] s.2.2.2) (fun z : Int32 × MS => r = some (.int z.1) ∧ μ' = z.2))) (fun s z hz hk => t_L_law_182_b hB hS hz hk) (l1, l2, l3, l4, l8, l9, l10, l11, l12, l13, μ) z hf hk
set_option maxHeartbeats 4000000 in
set_option maxRecDepth 100000 in
theorem t_L_law_177 {X : BX} {D : va_G} {cy : Nat → ClassId} {b : Nat} {r : Option Value} {μ' : MS} (hB : BB X D cy b (yLw X) cL_law 18 (some .boolean) room_1) {sa : Nat} {sc : SCR} (hS : SCX X b sa sc) {l1 : Nat} {l2 : Int32} {l3 : Int32} {l4 : Int32} {l8 : Int32} {l9 : Int32} {l10 : Int32} {l11 : Int32} {s0 : Int32} {μ : MS} {z : ((Nat × Int32 × Int32 × MS) ⊕ (Int32 × MS))} (hf : f_L_law_177 sc l1 l2 l3 l4 l8 l9 l10 l11 s0 μ = some z) (hk : (Sum.elim (fun s : Nat × Int32 × Int32 × MS => WW X D cy b r μ' 18 0 0 12 [(0, .ref sa), (1, .ref (b + s.1)), (2, .int s.2.1), (3, .int s.2.2.1)] [] s.2.2.2) (fun z : Int32 × MS => r = some (.int z.1) ∧ μ' = z.2)) z) : WW X D cy b r μ' 18 0 0 177 [(0, .ref sa), (1, .ref (b + l1)), (2, .int l2), (3, .int l3), (4, .int l4), (8, .int l8), (9, .int l9), (10, .int l10), (11, .int l11)] [.int s0] μ := by
  unfold f_L_law_177 at hf
  refine r_istore hB (by decide +kernel : decode cL_law 177 = .ok (.istore 12, 2)) (by decide) rfl ?_
  refine ww_lv (lv' := [(12, .int s0), (0, .ref sa), (1, .ref (b + l1)), (2, .int l2), (3, .int l3), (4, .int l4), (8, .int l8), (9, .int l9), (10, .int l10), (11, .int l11)]) rfl ?_
  refine r_iconst hB (v := 0) (by decide +kernel : decode cL_law 179 = .ok (.iconst 0, 1)) (by decide +kernel) ?_
  refine r_istore hB (by decide +kernel : decode cL_law 180 = .ok (.istore 13, 2)) (by decide) rfl ?_
  refine ww_lv (lv' := [(13, .int 0), (12, .int s0), (0, .ref sa), (1, .ref (b + l1)), (2, .int l2), (3, .int l3), (4, .int l4), (8, .int l8), (9, .int l9), (10, .int l10), (11, .int l11)]) rfl ?_
  exact WW.sub [2, 3, 4, 5, 6, 7, 8, 9, 10, 1, 0] rfl (t_L_law_182 hB hS hf hk)
set_option maxHeartbeats 4000000 in
set_option maxRecDepth 100000 in
theorem t_L_law_129 {X : BX} {D : va_G} {cy : Nat → ClassId} {b : Nat} {r : Option Value} {μ' : MS} (hB : BB X D cy b (yLw X) cL_law 18 (some .boolean) room_1) {sa : Nat} {sc : SCR} (hS : SCX X b sa sc)  {μ : MS} {z : (Int32 × MS)} (hf : f_L_law_129 sc  μ = some z) (hk : (fun z : Int32 × MS => r = some (.int z.1) ∧ μ' = z.2) z) : WW X D cy b r μ' 18 0 0 129 [] [] μ := by
  unfold f_L_law_129 at hf
  refine r_iconst hB (v := 0) (by decide +kernel : decode cL_law 129 = .ok (.iconst 0, 1)) (by decide +kernel) ?_
  obtain rfl := Option.some.inj hf
  obtain ⟨rfl, rfl⟩ := hk
  exact r_zret hB (Or.inl rfl) (by decide +kernel : decode cL_law 130 = .ok (.ireturn, 1))
set_option maxHeartbeats 4000000 in
set_option maxRecDepth 100000 in
theorem t_L_law_120 {X : BX} {D : va_G} {cy : Nat → ClassId} {b : Nat} {r : Option Value} {μ' : MS} (hB : BB X D cy b (yLw X) cL_law 18 (some .boolean) room_1) {sa : Nat} {sc : SCR} (hS : SCX X b sa sc) {l1 : Nat} {l2 : Int32} {l3 : Int32} {l4 : Int32} {μ : MS} {z : ((Nat × Int32 × Int32 × MS) ⊕ (Int32 × MS))} (hf : f_L_law_120 sc l1 l2 l3 l4 μ = some z) (hk : (Sum.elim (fun s : Nat × Int32 × Int32 × MS => WW X D cy b r μ' 18 0 0 12 [(0, .ref sa), (1, .ref (b + s.1)), (2, .int s.2.1), (3, .int s.2.2.1)] [] s.2.2.2) (fun z : Int32 × MS => r = some (.int z.1) ∧ μ' = z.2)) z) : WW X D cy b r μ' 18 0 0 120 [(0, .ref sa), (1, .ref (b + l1)), (2, .int l2), (3, .int l3), (4, .int l4)] [] μ := by
  unfold f_L_law_120 at hf
  refine r_aload_n hB 1 rfl (by decide +kernel : decode cL_law 120 = .ok (.aload_n 1, 1)) rfl ?_
  refine r_iconst hB (v := 3) (by decide +kernel : decode cL_law 121 = .ok (.iconst 3, 1)) (by decide +kernel) ?_
  refine r_cVi hB [.int 3] [] cf11 (own := "PulseRemoteLaw") rfl cmX11_count imX11_count (Or.inl k_432) (by decide) rfl rfl rfl (Nat.le_of_ble_eq_true rfl) (by decide +kernel : decode cL_law 122 = .ok (.invokevirtual 10, 3)) (fun z hz => m_X11_count _ _ _ _ hz) rfl hf (fun z122 hf => ?_)
  refine r_iload_n hB 2 rfl (by decide +kernel : decode cL_law 125 = .ok (.iload_n 2, 1)) rfl ?_
  refine r_icmp_eq hB (tgt := 131) (by decide +kernel : decode cL_law 126 = .ok (.if_icmp .eq 5, 3)) (by decide) hf (fun _ hf => ?_) (fun _ hf => ?_)
  · refine r_iload hB 4 rfl (by decide +kernel : decode cL_law 131 = .ok (.iload 4, 2)) ?_
    refine r_iconst hB (v := 4) (by decide +kernel : decode cL_law 133 = .ok (.iconst 4, 1)) (by decide +kernel) ?_
    refine r_ishr hB (by decide +kernel : decode cL_law 134 = .ok (.ishr, 1)) ?_
    refine r_iconst hB (v := 3) (by decide +kernel : decode cL_law 135 = .ok (.iconst 3, 1)) (by decide +kernel) ?_
    refine r_cSi hB [.int (l4 >>> (4 &&& 31)), .int 3] [] (own := "PulseRemoteLaw") rfl cmL_low smL_low (Or.inl ⟨rfl, k_701⟩) (by decide) rfl rfl rfl (Nat.le_of_ble_eq_true rfl) (by decide +kernel : decode cL_law 136 = .ok (.invokestatic 61, 3)) (fun z hz => m_L_low _ _ _ _ hz) rfl hf (fun z136 hf => ?_)
    refine r_istore hB (by decide +kernel : decode cL_law 139 = .ok (.istore 8, 2)) (by decide) rfl ?_
    refine ww_lv (lv' := [(8, .int z136.1), (0, .ref sa), (1, .ref (b + l1)), (2, .int l2), (3, .int l3), (4, .int l4)]) rfl ?_
    refine r_aload_n hB 2 rfl (by decide +kernel : decode cL_law 141 = .ok (.aload_n 1, 1)) rfl ?_
    refine r_iload hB 0 rfl (by decide +kernel : decode cL_law 142 = .ok (.iload 8, 2)) ?_
    refine r_cVi hB [.int z136.1] [] cf11 (own := "PulseRemoteLaw") rfl cmX11_strayCount imX11_strayCount (Or.inl k_682) (by decide) rfl rfl rfl (Nat.le_of_ble_eq_true rfl) (by decide +kernel : decode cL_law 144 = .ok (.invokevirtual 36, 3)) (fun z hz => m_X11_strayCount _ _ _ _ hz) rfl hf (fun z144 hf => ?_)
    refine r_istore hB (by decide +kernel : decode cL_law 147 = .ok (.istore 9, 2)) (by decide) rfl ?_
    refine ww_lv (lv' := [(9, .int z144.1), (8, .int z136.1), (0, .ref sa), (1, .ref (b + l1)), (2, .int l2), (3, .int l3), (4, .int l4)]) rfl ?_
    refine r_aload_n hB 3 rfl (by decide +kernel : decode cL_law 149 = .ok (.aload_n 1, 1)) rfl ?_
    refine r_iload hB 1 rfl (by decide +kernel : decode cL_law 150 = .ok (.iload 8, 2)) ?_
    refine r_cVi hB [.int z136.1] [] cf11 (own := "PulseRemoteLaw") rfl cmX11_frameCount imX11_frameCount (Or.inl k_481) (by decide) rfl rfl rfl (Nat.le_of_ble_eq_true rfl) (by decide +kernel : decode cL_law 152 = .ok (.invokevirtual 41, 3)) (fun z hz => m_X11_frameCount _ _ _ _ hz) rfl hf (fun z152 hf => ?_)
    refine r_istore hB (by decide +kernel : decode cL_law 155 = .ok (.istore 10, 2)) (by decide) rfl ?_
    refine ww_lv (lv' := [(10, .int z152.1), (9, .int z144.1), (8, .int z136.1), (0, .ref sa), (1, .ref (b + l1)), (2, .int l2), (3, .int l3), (4, .int l4)]) rfl ?_
    refine r_aload_n hB 4 rfl (by decide +kernel : decode cL_law 157 = .ok (.aload_n 1, 1)) rfl ?_
    refine r_iload hB 2 rfl (by decide +kernel : decode cL_law 158 = .ok (.iload 8, 2)) ?_
    refine r_cVi hB [.int z136.1] [] cf11 (own := "PulseRemoteLaw") rfl cmX11_pressCount imX11_pressCount (Or.inl k_623) (by decide) rfl rfl rfl (Nat.le_of_ble_eq_true rfl) (by decide +kernel : decode cL_law 160 = .ok (.invokevirtual 31, 3)) (fun z hz => m_X11_pressCount _ _ _ _ hz) rfl hf (fun z160 hf => ?_)
    refine r_istore hB (by decide +kernel : decode cL_law 163 = .ok (.istore 11, 2)) (by decide) rfl ?_
    refine ww_lv (lv' := [(11, .int z160.1), (10, .int z152.1), (9, .int z144.1), (8, .int z136.1), (0, .ref sa), (1, .ref (b + l1)), (2, .int l2), (3, .int l3), (4, .int l4)]) rfl ?_
    refine r_iload_n hB 7 rfl (by decide +kernel : decode cL_law 165 = .ok (.iload_n 3, 1)) rfl ?_
    refine r_iconst hB (v := 4) (by decide +kernel : decode cL_law 166 = .ok (.iconst 4, 1)) (by decide +kernel) ?_
    refine r_irem hB (by decide +kernel : decode cL_law 167 = .ok (.irem, 1)) hf (fun v167 hf => ?_)
    refine r_iconst hB (v := 3) (by decide +kernel : decode cL_law 168 = .ok (.iconst 3, 1)) (by decide +kernel) ?_
    refine r_icmp_ne hB (tgt := 176) (by decide +kernel : decode cL_law 169 = .ok (.if_icmp .ne 7, 3)) (by decide) hf (fun _ hf => ?_) (fun _ hf => ?_)
    · refine r_iconst hB (v := 1) (by decide +kernel : decode cL_law 172 = .ok (.iconst 1, 1)) (by decide +kernel) ?_
      refine r_goto hB (tgt := 177) (by decide +kernel : decode cL_law 173 = .ok (.goto 4, 3)) (by decide) ?_
      exact WW.sub [4, 5, 6, 7, 8, 3, 2, 1, 0] rfl (t_L_law_177 hB hS hf hk)
    · refine r_iconst hB (v := 0) (by decide +kernel : decode cL_law 176 = .ok (.iconst 0, 1)) (by decide +kernel) ?_
      exact WW.sub [4, 5, 6, 7, 8, 3, 2, 1, 0] rfl (t_L_law_177 hB hS hf hk)
  · obtain ⟨_, hx0, rfl⟩ := xr_inv hf
    exact WW.sub [] rfl (t_L_law_129 hB hS hx0 hk)
set_option maxHeartbeats 4000000 in
set_option maxRecDepth 100000 in
theorem t_L_law_115 {X : BX} {D : va_G} {cy : Nat → ClassId} {b : Nat} {r : Option Value} {μ' : MS} (hB : BB X D cy b (yLw X) cL_law 18 (some .boolean) room_1) {sa : Nat} {sc : SCR} (hS : SCX X b sa sc)  {μ : MS} {z : (Int32 × MS)} (hf : f_L_law_115 sc  μ = some z) (hk : (fun z : Int32 × MS => r = some (.int z.1) ∧ μ' = z.2) z) : WW X D cy b r μ' 18 0 0 115 [] [] μ := by
  unfold f_L_law_115 at hf
  refine r_iconst hB (v := 0) (by decide +kernel : decode cL_law 115 = .ok (.iconst 0, 1)) (by decide +kernel) ?_
  obtain rfl := Option.some.inj hf
  obtain ⟨rfl, rfl⟩ := hk
  exact r_zret hB (Or.inl rfl) (by decide +kernel : decode cL_law 116 = .ok (.ireturn, 1))
set_option maxHeartbeats 4000000 in
set_option maxRecDepth 100000 in
theorem t_L_law_79 {X : BX} {D : va_G} {cy : Nat → ClassId} {b : Nat} {r : Option Value} {μ' : MS} (hB : BB X D cy b (yLw X) cL_law 18 (some .boolean) room_1) {sa : Nat} {sc : SCR} (hS : SCX X b sa sc) {l1 : Nat} {l3 : Int32} {l4 : Int32} {l5 : Int64} {l7 : Int32} {s0 : Int32} {μ : MS} {z : ((Nat × Int32 × Int32 × MS) ⊕ (Int32 × MS))} (hf : f_L_law_79 sc l1 l3 l4 l5 l7 s0 μ = some z) (hk : (Sum.elim (fun s : Nat × Int32 × Int32 × MS => WW X D cy b r μ' 18 0 0 12 [(0, .ref sa), (1, .ref (b + s.1)), (2, .int s.2.1), (3, .int s.2.2.1)] [] s.2.2.2) (fun z : Int32 × MS => r = some (.int z.1) ∧ μ' = z.2)) z) : WW X D cy b r μ' 18 0 0 79 [(0, .ref sa), (1, .ref (b + l1)), (3, .int l3), (4, .int l4), (5, .long l5), (7, .int l7)] [.int s0] μ := by
  unfold f_L_law_79 at hf
  refine r_istore_n hB (by decide +kernel : decode cL_law 79 = .ok (.istore_n 2, 1)) rfl (by decide) rfl ?_
  refine ww_lv (lv' := [(2, .int s0), (0, .ref sa), (1, .ref (b + l1)), (3, .int l3), (4, .int l4), (5, .long l5), (7, .int l7)]) rfl ?_
  refine r_iload hB 6 rfl (by decide +kernel : decode cL_law 80 = .ok (.iload 7, 2)) ?_
  refine r_if_lt hB (tgt := 120) (by decide +kernel : decode cL_law 82 = .ok (.ifCond .lt 38, 3)) (by decide) hf (fun _ hf => ?_) (fun _ hf => ?_)
  · exact WW.sub [1, 2, 0, 3, 4] rfl (t_L_law_120 hB hS hf hk)
  · refine r_iload hB 4 rfl (by decide +kernel : decode cL_law 85 = .ok (.iload 4, 2)) ?_
    refine r_bipush hB (v := 26) (by decide +kernel : decode cL_law 87 = .ok (.bipush 26, 2)) (by decide +kernel) ?_
    refine r_ishr hB (by decide +kernel : decode cL_law 89 = .ok (.ishr, 1)) ?_
    refine r_iconst hB (v := 3) (by decide +kernel : decode cL_law 90 = .ok (.iconst 3, 1)) (by decide +kernel) ?_
    refine r_iand hB (by decide +kernel : decode cL_law 91 = .ok (.iand, 1)) ?_
    refine r_if_ne hB (tgt := 120) (by decide +kernel : decode cL_law 92 = .ok (.ifCond .ne 28, 3)) (by decide) hf (fun _ hf => ?_) (fun _ hf => ?_)
    · refine r_aload_n hB 2 rfl (by decide +kernel : decode cL_law 95 = .ok (.aload_n 1, 1)) rfl ?_
      refine r_cVi hB [] [] cf11 (own := "PulseRemoteLaw") rfl cmX11_undo imX11_undo (Or.inl k_694) (by decide) rfl rfl rfl (Nat.le_of_ble_eq_true rfl) (by decide +kernel : decode cL_law 96 = .ok (.invokevirtual 123, 3)) (fun z hz => m_X11_undo _ _ _ _ hz) rfl hf (fun z96 hf => ?_)
      refine r_iload_n hB 0 rfl (by decide +kernel : decode cL_law 99 = .ok (.iload_n 2, 1)) rfl ?_
      refine r_iconst hB (v := 1) (by decide +kernel : decode cL_law 100 = .ok (.iconst 1, 1)) (by decide +kernel) ?_
      refine r_isub hB (by decide +kernel : decode cL_law 101 = .ok (.isub, 1)) ?_
      refine r_icmp_ne hB (tgt := 115) (by decide +kernel : decode cL_law 102 = .ok (.if_icmp .ne 13, 3)) (by decide) hf (fun _ hf => ?_) (fun _ hf => ?_)
      · refine r_aload_n hB 2 rfl (by decide +kernel : decode cL_law 105 = .ok (.aload_n 1, 1)) rfl ?_
        refine r_cSl hB [.ref (b + l1)] [] (own := "PulseRemoteLaw") rfl cmL_tale smL_tale (Or.inl ⟨rfl, k_705⟩) (by decide) rfl rfl rfl (Nat.le_of_ble_eq_true rfl) (by decide +kernel : decode cL_law 106 = .ok (.invokestatic 115, 3)) (fun z hz => m_L_tale _ _ _ _ hz) rfl hf (fun z106 hf => ?_)
        refine r_lload hB 5 rfl (by decide +kernel : decode cL_law 109 = .ok (.lload 5, 2)) ?_
        refine r_lcmp hB (by decide +kernel : decode cL_law 111 = .ok (.lcmp, 1)) ?_
        refine r_if_eq hB (tgt := 117) (by decide +kernel : decode cL_law 112 = .ok (.ifCond .eq 5, 3)) (by decide) hf (fun _ hf => ?_) (fun _ hf => ?_)
        · refine r_iincB hB 0 rfl (by decide +kernel : decode cL_law 117 = .ok (.iinc 2 (-1), 3)) (w := (-1)) (by decide +kernel) (by decide) hf (fun v117 hf => ?_)
          refine ww_lv (lv' := [(2, .int v117), (0, .ref sa), (1, .ref (b + l1)), (3, .int l3), (4, .int l4), (5, .long l5), (7, .int l7)]) rfl ?_
          exact WW.sub [1, 2, 0, 3, 4] rfl (t_L_law_120 hB hS hf hk)
        · obtain ⟨_, hx0, rfl⟩ := xr_inv hf
          exact WW.sub [] rfl (t_L_law_115 hB hS hx0 hk)
      · obtain ⟨_, hx0, rfl⟩ := xr_inv hf
        exact WW.sub [] rfl (t_L_law_115 hB hS hx0 hk)
    · exact WW.sub [1, 2, 0, 3, 4] rfl (t_L_law_120 hB hS hf hk)
set_option maxHeartbeats 4000000 in
set_option maxRecDepth 100000 in
theorem t_L_law_56 {X : BX} {D : va_G} {cy : Nat → ClassId} {b : Nat} {r : Option Value} {μ' : MS} (hB : BB X D cy b (yLw X) cL_law 18 (some .boolean) room_1) {sa : Nat} {sc : SCR} (hS : SCX X b sa sc) {l1 : Nat} {l2 : Int32} {l3 : Int32} {l4 : Int32} {l5 : Int64} {l7 : Int32} {μ : MS} {z : ((Nat × Int32 × Int32 × MS) ⊕ (Int32 × MS))} (hf : f_L_law_56 sc l1 l2 l3 l4 l5 l7 μ = some z) (hk : (Sum.elim (fun s : Nat × Int32 × Int32 × MS => WW X D cy b r μ' 18 0 0 12 [(0, .ref sa), (1, .ref (b + s.1)), (2, .int s.2.1), (3, .int s.2.2.1)] [] s.2.2.2) (fun z : Int32 × MS => r = some (.int z.1) ∧ μ' = z.2)) z) : WW X D cy b r μ' 18 0 0 56 [(0, .ref sa), (1, .ref (b + l1)), (2, .int l2), (3, .int l3), (4, .int l4), (5, .long l5), (7, .int l7)] [] μ := by
  unfold f_L_law_56 at hf
  refine r_iload hB 6 rfl (by decide +kernel : decode cL_law 56 = .ok (.iload 7, 2)) ?_
  refine r_if_ge hB (tgt := 65) (by decide +kernel : decode cL_law 58 = .ok (.ifCond .ge 7, 3)) (by decide) hf (fun _ hf => ?_) (fun _ hf => ?_)
  · refine r_iload_n hB 2 rfl (by decide +kernel : decode cL_law 65 = .ok (.iload_n 2, 1)) rfl ?_
    refine r_bipush hB (v := 6) (by decide +kernel : decode cL_law 66 = .ok (.bipush 6, 2)) (by decide +kernel) ?_
    refine r_icmp_ge hB (tgt := 77) (by decide +kernel : decode cL_law 68 = .ok (.if_icmp .ge 9, 3)) (by decide) hf (fun _ hf => ?_) (fun _ hf => ?_)
    · refine r_bipush hB (v := 6) (by decide +kernel : decode cL_law 77 = .ok (.bipush 6, 2)) (by decide +kernel) ?_
      exact WW.sub [0, 1, 3, 4, 5, 6] rfl (t_L_law_79 hB hS hf hk)
    · refine r_iload_n hB 2 rfl (by decide +kernel : decode cL_law 71 = .ok (.iload_n 2, 1)) rfl ?_
      refine r_iconst hB (v := 1) (by decide +kernel : decode cL_law 72 = .ok (.iconst 1, 1)) (by decide +kernel) ?_
      refine r_iadd hB (by decide +kernel : decode cL_law 73 = .ok (.iadd, 1)) ?_
      refine r_goto hB (tgt := 79) (by decide +kernel : decode cL_law 74 = .ok (.goto 5, 3)) (by decide) ?_
      exact WW.sub [0, 1, 3, 4, 5, 6] rfl (t_L_law_79 hB hS hf hk)
  · refine r_iload_n hB 2 rfl (by decide +kernel : decode cL_law 61 = .ok (.iload_n 2, 1)) rfl ?_
    refine r_goto hB (tgt := 79) (by decide +kernel : decode cL_law 62 = .ok (.goto 17, 3)) (by decide) ?_
    exact WW.sub [0, 1, 3, 4, 5, 6] rfl (t_L_law_79 hB hS hf hk)
set_option maxHeartbeats 4000000 in
set_option maxRecDepth 100000 in
theorem t_L_law_54 {X : BX} {D : va_G} {cy : Nat → ClassId} {b : Nat} {r : Option Value} {μ' : MS} (hB : BB X D cy b (yLw X) cL_law 18 (some .boolean) room_1) {sa : Nat} {sc : SCR} (hS : SCX X b sa sc)  {μ : MS} {z : (Int32 × MS)} (hf : f_L_law_54 sc  μ = some z) (hk : (fun z : Int32 × MS => r = some (.int z.1) ∧ μ' = z.2) z) : WW X D cy b r μ' 18 0 0 54 [] [] μ := by
  unfold f_L_law_54 at hf
  refine r_iconst hB (v := 0) (by decide +kernel : decode cL_law 54 = .ok (.iconst 0, 1)) (by decide +kernel) ?_
  obtain rfl := Option.some.inj hf
  obtain ⟨rfl, rfl⟩ := hk
  exact r_zret hB (Or.inl rfl) (by decide +kernel : decode cL_law 55 = .ok (.ireturn, 1))
set_option maxHeartbeats 4000000 in
set_option maxRecDepth 100000 in
theorem t_L_law_12_b {X : BX} {D : va_G} {cy : Nat → ClassId} {b : Nat} {r : Option Value} {μ' : MS} (hB : BB X D cy b (yLw X) cL_law 18 (some .boolean) room_1) {sa : Nat} {sc : SCR} (hS : SCX X b sa sc) {l1 : Nat} {l2 : Int32} {l3 : Int32} {μ : MS} {z : ((Nat × Int32 × Int32 × MS) ⊕ (Int32 × MS))} (hf : f_L_law_12_b sc l1 l2 l3 μ = some z) (hk : (Sum.elim (fun s : Nat × Int32 × Int32 × MS => WW X D cy b r μ' 18 0 0 12 [(0, .ref sa), (1, .ref (b + s.1)), (2, .int s.2.1), (3, .int s.2.2.1)] [] s.2.2.2) (fun z : Int32 × MS => r = some (.int z.1) ∧ μ' = z.2)) z) : WW X D cy b r μ' 18 0 0 12 [(0, .ref sa), (1, .ref (b + l1)), (2, .int l2), (3, .int l3)] [] μ := by
  unfold f_L_law_12_b at hf
  refine r_iload_n hB 3 rfl (by decide +kernel : decode cL_law 12 = .ok (.iload_n 3, 1)) rfl ?_
  refine r_bipush hB (v := 40) (by decide +kernel : decode cL_law 13 = .ok (.bipush 40, 2)) (by decide +kernel) ?_
  refine r_icmp_ge hB (tgt := 378) (by decide +kernel : decode cL_law 15 = .ok (.if_icmp .ge 363, 3)) (by decide) hf (fun _ hf => ?_) (fun _ hf => ?_)
  · obtain ⟨_, hx0, rfl⟩ := xr_inv hf
    exact WW.sub [1] rfl (t_L_law_378 hB hS hx0 hk)
  · refine r_aload_n hB 0 rfl (by decide +kernel : decode cL_law 18 = .ok (.aload_n 0, 1)) rfl ?_
    refine r_iload_n hB 3 rfl (by decide +kernel : decode cL_law 19 = .ok (.iload_n 3, 1)) rfl ?_
    refine r_cell hB hS [] (by decide +kernel : decode cL_law 20 = .ok (.invokestatic 111, 3)) rfl (by decide) hf (fun z20 hf => ?_)
    refine r_istore hB (by decide +kernel : decode cL_law 23 = .ok (.istore 4, 2)) (by decide) rfl ?_
    refine ww_lv (lv' := [(4, .int z20), (0, .ref sa), (1, .ref (b + l1)), (2, .int l2), (3, .int l3)]) rfl ?_
    refine r_aload_n hB 2 rfl (by decide +kernel : decode cL_law 25 = .ok (.aload_n 1, 1)) rfl ?_
    refine r_cSl hB [.ref (b + l1)] [] (own := "PulseRemoteLaw") rfl cmL_tale smL_tale (Or.inl ⟨rfl, k_705⟩) (by decide) rfl rfl rfl (Nat.le_of_ble_eq_true rfl) (by decide +kernel : decode cL_law 26 = .ok (.invokestatic 115, 3)) (fun z hz => m_L_tale _ _ _ _ hz) rfl hf (fun z26 hf => ?_)
    refine r_lstore hB (by decide +kernel : decode cL_law 29 = .ok (.lstore 5, 2)) (by decide) rfl ?_
    refine ww_lv (lv' := [(5, .long z26.1), (4, .int z20), (0, .ref sa), (1, .ref (b + l1)), (2, .int l2), (3, .int l3)]) rfl ?_
    refine r_aload_n hB 3 rfl (by decide +kernel : decode cL_law 31 = .ok (.aload_n 1, 1)) rfl ?_
    refine r_iload hB 1 rfl (by decide +kernel : decode cL_law 32 = .ok (.iload 4, 2)) ?_
    refine r_cSi hB [.ref (b + l1), .int z20] [] (own := "PulseRemoteLaw") rfl cmL_does smL_does (Or.inl ⟨rfl, k_742⟩) (by decide) rfl rfl rfl (Nat.le_of_ble_eq_true rfl) (by decide +kernel : decode cL_law 34 = .ok (.invokestatic 119, 3)) (fun z hz => m_L_does _ _ _ _ hz) rfl hf (fun z34 hf => ?_)
    refine r_istore hB (by decide +kernel : decode cL_law 37 = .ok (.istore 7, 2)) (by decide) rfl ?_
    refine ww_lv (lv' := [(7, .int z34.1), (5, .long z26.1), (4, .int z20), (0, .ref sa), (1, .ref (b + l1)), (2, .int l2), (3, .int l3)]) rfl ?_
    refine r_iload hB 0 rfl (by decide +kernel : decode cL_law 39 = .ok (.iload 7, 2)) ?_
    refine r_if_ge hB (tgt := 56) (by decide +kernel : decode cL_law 41 = .ok (.ifCond .ge 15, 3)) (by decide) hf (fun _ hf => ?_) (fun _ hf => ?_)
    · exact WW.sub [3, 4, 5, 6, 2, 1, 0] rfl (t_L_law_56 hB hS hf hk)
    · refine r_aload_n hB 4 rfl (by decide +kernel : decode cL_law 44 = .ok (.aload_n 1, 1)) rfl ?_
      refine r_cSl hB [.ref (b + l1)] [] (own := "PulseRemoteLaw") rfl cmL_tale smL_tale (Or.inl ⟨rfl, k_705⟩) (by decide) rfl rfl rfl (Nat.le_of_ble_eq_true rfl) (by decide +kernel : decode cL_law 45 = .ok (.invokestatic 115, 3)) (fun z hz => m_L_tale _ _ _ _ hz) rfl hf (fun z45 hf => ?_)
      refine r_lload hB 1 rfl (by decide +kernel : decode cL_law 48 = .ok (.lload 5, 2)) ?_
      refine r_lcmp hB (by decide +kernel : decode cL_law 50 = .ok (.lcmp, 1)) ?_
      refine r_if_eq hB (tgt := 56) (by decide +kernel : decode cL_law 51 = .ok (.ifCond .eq 5, 3)) (by decide) hf (fun _ hf => ?_) (fun _ hf => ?_)
      · exact WW.sub [3, 4, 5, 6, 2, 1, 0] rfl (t_L_law_56 hB hS hf hk)
      · obtain ⟨_, hx0, rfl⟩ := xr_inv hf
        exact WW.sub [] rfl (t_L_law_54 hB hS hx0 hk)
set_option maxHeartbeats 4000000 in
set_option maxRecDepth 100000 in
theorem t_L_law_12 {X : BX} {D : va_G} {cy : Nat → ClassId} {b : Nat} {r : Option Value} {μ' : MS} (hB : BB X D cy b (yLw X) cL_law 18 (some .boolean) room_1) {sa : Nat} {sc : SCR} (hS : SCX X b sa sc) {l1 : Nat} {l2 : Int32} {l3 : Int32} {μ : MS} {z : (Int32 × MS)} (hf : f_L_law_12 sc l1 l2 l3 μ = some z) (hk : (fun z : Int32 × MS => r = some (.int z.1) ∧ μ' = z.2) z) : WW X D cy b r μ' 18 0 0 12 [(0, .ref sa), (1, .ref (b + l1)), (2, .int l2), (3, .int l3)] [] μ :=
  lp_ind (P := fun s : Nat × Int32 × Int32 × MS => WW X D cy b r μ' 18 0 0 12 [(0, .ref sa), (1, .ref (b + s.1)), (2, .int s.2.1), (3, .int s.2.2.1)] [] s.2.2.2) (Q := (fun z : Int32 × MS => r = some (.int z.1) ∧ μ' = z.2)) (fun s z hz hk => t_L_law_12_b hB hS hz hk) (l1, l2, l3, μ) z hf hk
set_option maxHeartbeats 4000000 in
set_option maxRecDepth 100000 in
theorem t_L_law_8 {X : BX} {D : va_G} {cy : Nat → ClassId} {b : Nat} {r : Option Value} {μ' : MS} (hB : BB X D cy b (yLw X) cL_law 18 (some .boolean) room_1) {sa : Nat} {sc : SCR} (hS : SCX X b sa sc) {l1 : Nat} {μ : MS} {z : (Int32 × MS)} (hf : f_L_law_8 sc l1 μ = some z) (hk : (fun z : Int32 × MS => r = some (.int z.1) ∧ μ' = z.2) z) : WW X D cy b r μ' 18 0 0 8 [(0, .ref sa), (1, .ref (b + l1))] [] μ := by
  unfold f_L_law_8 at hf
  refine r_iconst hB (v := 0) (by decide +kernel : decode cL_law 8 = .ok (.iconst 0, 1)) (by decide +kernel) ?_
  refine r_istore_n hB (by decide +kernel : decode cL_law 9 = .ok (.istore_n 2, 1)) rfl (by decide) rfl ?_
  refine ww_lv (lv' := [(2, .int 0), (0, .ref sa), (1, .ref (b + l1))]) rfl ?_
  refine r_iconst hB (v := 0) (by decide +kernel : decode cL_law 10 = .ok (.iconst 0, 1)) (by decide +kernel) ?_
  refine r_istore_n hB (by decide +kernel : decode cL_law 11 = .ok (.istore_n 3, 1)) rfl (by decide) rfl ?_
  refine ww_lv (lv' := [(3, .int 0), (2, .int 0), (0, .ref sa), (1, .ref (b + l1))]) rfl ?_
  exact WW.sub [2, 3, 1, 0] rfl (t_L_law_12 hB hS hf hk)
