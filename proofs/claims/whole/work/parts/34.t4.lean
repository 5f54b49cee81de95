/-! printed by wip/whole/gen.py -/
-- PulseRemoteModel.addProtocol(IIII)I
set_option maxHeartbeats 4000000 in
set_option maxRecDepth 100000 in
theorem t_X12_addProtocol_109 {X : BX} {D : va_G} {cy : Nat → ClassId} {b : Nat} {r : Option Value} {μ' : MS} (hB : BB X D cy b yX12_addProtocol cX12_addProtocol 5 (some .int) rmX12_addProtocol) {l0 : Nat} {s0 : Int32} {s1 : Int32} {s2 : Int32} {s3 : Int32} {s4 : Int32} {s5 : Int32} {s6 : Nat} {μ : MS} {z : (Int32 × MS)} (hf : f_X12_addProtocol_109 l0 s0 s1 s2 s3 s4 s5 s6 μ = some z) (hk : (fun z : Int32 × MS => r = some (.int z.1) ∧ μ' = z.2) z) : WW X D cy b r μ' 5 0 0 109 [(0, .ref (b + l0))] [.int s0, .int s1, .int s2, .int s3, .int s4, .int s5, .ref (b + s6)] μ := by
  unfold f_X12_addProtocol_109 at hf
  refine r_cVv hB [.int s5, .int s4, .int s3, .int s2, .int s1, .int s0] [] cf12 (own := "PulseRemoteModel") rfl cmX12_setsLengths imX12_setsLengths (Or.inl k_1247) (by decide) rfl rfl rfl (Nat.le_of_ble_eq_true rfl) (by decide +kernel : decode cX12_addProtocol 109 = .ok (.invokevirtual 87, 3)) (fun z hz => m_X12_setsLengths _ _ _ _ hz) rfl hf (fun z109 hf => ?_)
  refine r_aload_n hB 0 rfl (by decide +kernel : decode cX12_addProtocol 112 = .ok (.aload_n 0, 1)) rfl ?_
  refine r_gR hB cf12 0 (by decide) (own := "PulseRemoteModel") rfl (Or.inl k_1115) (by decide +kernel) (by decide +kernel : decode cX12_addProtocol 113 = .ok (.getfield 7, 3)) hf (fun x113 hf => ?_)
  refine r_iconst hB (v := 3) (by decide +kernel : decode cX12_addProtocol 116 = .ok (.iconst 3, 1)) (by decide +kernel) ?_
  refine r_iald hB (by decide +kernel : decode cX12_addProtocol 117 = .ok (.iaload, 1)) hf (fun x117 hf => ?_)
  refine r_iconst hB (v := 1) (by decide +kernel : decode cX12_addProtocol 118 = .ok (.iconst 1, 1)) (by decide +kernel) ?_
  refine r_isub hB (by decide +kernel : decode cX12_addProtocol 119 = .ok (.isub, 1)) ?_
  obtain rfl := Option.some.inj hf
  obtain ⟨rfl, rfl⟩ := hk
  exact r_iret hB (by decide +kernel : decode cX12_addProtocol 120 = .ok (.ireturn, 1))
set_option maxHeartbeats 4000000 in
set_option maxRecDepth 100000 in
theorem t_X12_addProtocol_97 {X : BX} {D : va_G} {cy : Nat → ClassId} {b : Nat} {r : Option Value} {μ' : MS} (hB : BB X D cy b yX12_addProtocol cX12_addProtocol 5 (some .int) rmX12_addProtocol) {l0 : Nat} {l1 : Int32} {s0 : Int32} {s1 : Int32} {s2 : Int32} {s3 : Int32} {s4 : Int32} {s5 : Nat} {μ : MS} {z : (Int32 × MS)} (hf : f_X12_addProtocol_97 l0 l1 s0 s1 s2 s3 s4 s5 μ = some z) (hk : (fun z : Int32 × MS => r = some (.int z.1) ∧ μ' = z.2) z) : WW X D cy b r μ' 5 0 0 97 [(0, .ref (b + l0)), (1, .int l1)] [.int s0, .int s1, .int s2, .int s3, .int s4, .ref (b + s5)] μ := by
  unfold f_X12_addProtocol_97 at hf
  refine r_iload_n hB 1 rfl (by decide +kernel : decode cX12_addProtocol 97 = .ok (.iload_n 1, 1)) rfl ?_
  refine r_iconst hB (v := 2) (by decide +kernel : decode cX12_addProtocol 98 = .ok (.iconst 2, 1)) (by decide +kernel) ?_
  refine r_icmp_ne hB (tgt := 106) (by decide +kernel : decode cX12_addProtocol 99 = .ok (.if_icmp .ne 7, 3)) (by decide) hf (fun _ hf => ?_) (fun _ hf => ?_)
  · refine r_iconst hB (v := 0) (by decide +kernel : decode cX12_addProtocol 102 = .ok (.iconst 0, 1)) (by decide +kernel) ?_
    refine r_goto hB (tgt := 109) (by decide +kernel : decode cX12_addProtocol 103 = .ok (.goto 6, 3)) (by decide) ?_
    exact WW.sub [0] rfl (t_X12_addProtocol_109 hB hf hk)
  · refine r_sipush hB (v := 1690) (by decide +kernel : decode cX12_addProtocol 106 = .ok (.sipush 1690, 3)) (by decide +kernel) ?_
    exact WW.sub [0] rfl (t_X12_addProtocol_109 hB hf hk)
set_option maxHeartbeats 4000000 in
set_option maxRecDepth 100000 in
theorem t_X12_addProtocol_0 {X : BX} {D : va_G} {cy : Nat → ClassId} {b : Nat} {r : Option Value} {μ' : MS} (hB : BB X D cy b yX12_addProtocol cX12_addProtocol 5 (some .int) rmX12_addProtocol) {l0 : Nat} {l1 : Int32} {l2 : Int32} {l3 : Int32} {l4 : Int32} {μ : MS} {z : (Int32 × MS)} (hf : f_X12_addProtocol l0 l1 l2 l3 l4 μ = some z) (hk : (fun z : Int32 × MS => r = some (.int z.1) ∧ μ' = z.2) z) : WW X D cy b r μ' 5 0 0 0 [(0, .ref (b + l0)), (1, .int l1), (2, .int l2), (3, .int l3), (4, .int l4)] [] μ := by
  unfold f_X12_addProtocol at hf
  refine r_iload_n hB 1 rfl (by decide +kernel : decode cX12_addProtocol 0 = .ok (.iload_n 1, 1)) rfl ?_
  refine r_iconst hB (v := 0) (by decide +kernel : decode cX12_addProtocol 1 = .ok (.iconst 0, 1)) (by decide +kernel) ?_
  refine r_iconst hB (v := 2) (by decide +kernel : decode cX12_addProtocol 2 = .ok (.iconst 2, 1)) (by decide +kernel) ?_
  refine r_cSi hB [.int l1, .int 0, .int 2] [] (own := "PulseRemoteModel") rfl cmX12_in smX12_in (Or.inl ⟨rfl, k_1233⟩) (by decide) rfl rfl rfl (Nat.le_of_ble_eq_true rfl) (by decide +kernel : decode cX12_addProtocol 3 = .ok (.invokestatic 68, 3)) (fun z hz => m_X12_in _ _ _ _ hz) rfl hf (fun z3 hf => ?_)
  refine r_if_eq hB (tgt := 38) (by decide +kernel : decode cX12_addProtocol 6 = .ok (.ifCond .eq 32, 3)) (by decide) hf (fun _ hf => ?_) (fun _ hf => ?_)
  · refine r_iconst hB (v := (-1)) (by decide +kernel : decode cX12_addProtocol 38 = .ok (.iconst (-1), 1)) (by decide +kernel) ?_
    obtain rfl := Option.some.inj hf
    obtain ⟨rfl, rfl⟩ := hk
    exact r_iret hB (by decide +kernel : decode cX12_addProtocol 39 = .ok (.ireturn, 1))
  · refine r_iload_n hB 2 rfl (by decide +kernel : decode cX12_addProtocol 9 = .ok (.iload_n 2, 1)) rfl ?_
    refine r_iconst hB (v := 1) (by decide +kernel : decode cX12_addProtocol 10 = .ok (.iconst 1, 1)) (by decide +kernel) ?_
    refine r_bipush hB (v := 16) (by decide +kernel : decode cX12_addProtocol 11 = .ok (.bipush 16, 2)) (by decide +kernel) ?_
    refine r_cSi hB [.int l2, .int 1, .int 16] [] (own := "PulseRemoteModel") rfl cmX12_in smX12_in (Or.inl ⟨rfl, k_1233⟩) (by decide) rfl rfl rfl (Nat.le_of_ble_eq_true rfl) (by decide +kernel : decode cX12_addProtocol 13 = .ok (.invokestatic 68, 3)) (fun z hz => m_X12_in _ _ _ _ hz) rfl hf (fun z13 hf => ?_)
    refine r_if_eq hB (tgt := 38) (by decide +kernel : decode cX12_addProtocol 16 = .ok (.ifCond .eq 22, 3)) (by decide) hf (fun _ hf => ?_) (fun _ hf => ?_)
    · refine r_iconst hB (v := (-1)) (by decide +kernel : decode cX12_addProtocol 38 = .ok (.iconst (-1), 1)) (by decide +kernel) ?_
      obtain rfl := Option.some.inj hf
      obtain ⟨rfl, rfl⟩ := hk
      exact r_iret hB (by decide +kernel : decode cX12_addProtocol 39 = .ok (.ireturn, 1))
    · refine r_iload_n hB 3 rfl (by decide +kernel : decode cX12_addProtocol 19 = .ok (.iload_n 3, 1)) rfl ?_
      refine r_iconst hB (v := 0) (by decide +kernel : decode cX12_addProtocol 20 = .ok (.iconst 0, 1)) (by decide +kernel) ?_
      refine r_iconst hB (v := 1) (by decide +kernel : decode cX12_addProtocol 21 = .ok (.iconst 1, 1)) (by decide +kernel) ?_
      refine r_cSi hB [.int l3, .int 0, .int 1] [] (own := "PulseRemoteModel") rfl cmX12_in smX12_in (Or.inl ⟨rfl, k_1233⟩) (by decide) rfl rfl rfl (Nat.le_of_ble_eq_true rfl) (by decide +kernel : decode cX12_addProtocol 22 = .ok (.invokestatic 68, 3)) (fun z hz => m_X12_in _ _ _ _ hz) rfl hf (fun z22 hf => ?_)
      refine r_if_eq hB (tgt := 38) (by decide +kernel : decode cX12_addProtocol 25 = .ok (.ifCond .eq 13, 3)) (by decide) hf (fun _ hf => ?_) (fun _ hf => ?_)
      · refine r_iconst hB (v := (-1)) (by decide +kernel : decode cX12_addProtocol 38 = .ok (.iconst (-1), 1)) (by decide +kernel) ?_
        obtain rfl := Option.some.inj hf
        obtain ⟨rfl, rfl⟩ := hk
        exact r_iret hB (by decide +kernel : decode cX12_addProtocol 39 = .ok (.ireturn, 1))
      · refine r_iload hB 4 rfl (by decide +kernel : decode cX12_addProtocol 28 = .ok (.iload 4, 2)) ?_
        refine r_iconst hB (v := 0) (by decide +kernel : decode cX12_addProtocol 30 = .ok (.iconst 0, 1)) (by decide +kernel) ?_
        refine r_iconst hB (v := 2) (by decide +kernel : decode cX12_addProtocol 31 = .ok (.iconst 2, 1)) (by decide +kernel) ?_
        refine r_cSi hB [.int l4, .int 0, .int 2] [] (own := "PulseRemoteModel") rfl cmX12_in smX12_in (Or.inl ⟨rfl, k_1233⟩) (by decide) rfl rfl rfl (Nat.le_of_ble_eq_true rfl) (by decide +kernel : decode cX12_addProtocol 32 = .ok (.invokestatic 68, 3)) (fun z hz => m_X12_in _ _ _ _ hz) rfl hf (fun z32 hf => ?_)
        refine r_if_ne hB (tgt := 40) (by decide +kernel : decode cX12_addProtocol 35 = .ok (.ifCond .ne 5, 3)) (by decide) hf (fun _ hf => ?_) (fun _ hf => ?_)
        · refine r_iconst hB (v := (-1)) (by decide +kernel : decode cX12_addProtocol 38 = .ok (.iconst (-1), 1)) (by decide +kernel) ?_
          obtain rfl := Option.some.inj hf
          obtain ⟨rfl, rfl⟩ := hk
          exact r_iret hB (by decide +kernel : decode cX12_addProtocol 39 = .ok (.ireturn, 1))
        · refine r_aload_n hB 0 rfl (by decide +kernel : decode cX12_addProtocol 40 = .ok (.aload_n 0, 1)) rfl ?_
          refine r_gR hB cf12 0 (by decide) (own := "PulseRemoteModel") rfl (Or.inl k_1115) (by decide +kernel) (by decide +kernel : decode cX12_addProtocol 41 = .ok (.getfield 7, 3)) hf (fun x41 hf => ?_)
          refine r_iconst hB (v := 3) (by decide +kernel : decode cX12_addProtocol 44 = .ok (.iconst 3, 1)) (by decide +kernel) ?_
          refine r_iald hB (by decide +kernel : decode cX12_addProtocol 45 = .ok (.iaload, 1)) hf (fun x45 hf => ?_)
          refine r_bipush hB (v := 6) (by decide +kernel : decode cX12_addProtocol 46 = .ok (.bipush 6, 2)) (by decide +kernel) ?_
          refine r_icmp_ne hB (tgt := 54) (by decide +kernel : decode cX12_addProtocol 48 = .ok (.if_icmp .ne 6, 3)) (by decide) hf (fun _ hf => ?_) (fun _ hf => ?_)
          · refine r_bipush hB (v := (-3)) (by decide +kernel : decode cX12_addProtocol 51 = .ok (.bipush (-3), 2)) (by decide +kernel) ?_
            obtain rfl := Option.some.inj hf
            obtain ⟨rfl, rfl⟩ := hk
            exact r_iret hB (by decide +kernel : decode cX12_addProtocol 53 = .ok (.ireturn, 1))
          · refine r_aload_n hB 0 rfl (by decide +kernel : decode cX12_addProtocol 54 = .ok (.aload_n 0, 1)) rfl ?_
            refine r_cVv hB [] [] cf12 (own := "PulseRemoteModel") rfl cmX12_note imX12_note (Or.inl k_1236) (by decide) rfl rfl rfl (Nat.le_of_ble_eq_true rfl) (by decide +kernel : decode cX12_addProtocol 55 = .ok (.invokevirtual 80, 3)) (fun z hz => m_X12_note _ _ _ _ hz) rfl hf (fun z55 hf => ?_)
            refine r_aload_n hB 0 rfl (by decide +kernel : decode cX12_addProtocol 58 = .ok (.aload_n 0, 1)) rfl ?_
            refine r_iload_n hB 1 rfl (by decide +kernel : decode cX12_addProtocol 59 = .ok (.iload_n 1, 1)) rfl ?_
            refine r_iload_n hB 2 rfl (by decide +kernel : decode cX12_addProtocol 60 = .ok (.iload_n 2, 1)) rfl ?_
            refine r_iload_n hB 3 rfl (by decide +kernel : decode cX12_addProtocol 61 = .ok (.iload_n 3, 1)) rfl ?_
            refine r_iload hB 4 rfl (by decide +kernel : decode cX12_addProtocol 62 = .ok (.iload 4, 2)) ?_
            refine r_cVv hB [.int l1, .int l2, .int l3, .int l4] [] cf12 (own := "PulseRemoteModel") rfl cmX12_addsProtocol imX12_addsProtocol (Or.inl k_1240) (by decide) rfl rfl rfl (Nat.le_of_ble_eq_true rfl) (by decide +kernel : decode cX12_addProtocol 64 = .ok (.invokevirtual 83, 3)) (fun z hz => m_X12_addsProtocol _ _ _ _ hz) rfl hf (fun z64 hf => ?_)
            refine r_aload_n hB 0 rfl (by decide +kernel : decode cX12_addProtocol 67 = .ok (.aload_n 0, 1)) rfl ?_
            refine r_aload_n hB 0 rfl (by decide +kernel : decode cX12_addProtocol 68 = .ok (.aload_n 0, 1)) rfl ?_
            refine r_gR hB cf12 0 (by decide) (own := "PulseRemoteModel") rfl (Or.inl k_1115) (by decide +kernel) (by decide +kernel : decode cX12_addProtocol 69 = .ok (.getfield 7, 3)) hf (fun x69 hf => ?_)
            refine r_iconst hB (v := 3) (by decide +kernel : decode cX12_addProtocol 72 = .ok (.iconst 3, 1)) (by decide +kernel) ?_
            refine r_iald hB (by decide +kernel : decode cX12_addProtocol 73 = .ok (.iaload, 1)) hf (fun x73 hf => ?_)
            refine r_iconst hB (v := 1) (by decide +kernel : decode cX12_addProtocol 74 = .ok (.iconst 1, 1)) (by decide +kernel) ?_
            refine r_isub hB (by decide +kernel : decode cX12_addProtocol 75 = .ok (.isub, 1)) ?_
            refine r_sipush hB (v := 9000) (by decide +kernel : decode cX12_addProtocol 76 = .ok (.sipush 9000, 3)) (by decide +kernel) ?_
            refine r_sipush hB (v := 4500) (by decide +kernel : decode cX12_addProtocol 79 = .ok (.sipush 4500, 3)) (by decide +kernel) ?_
            refine r_sipush hB (v := 560) (by decide +kernel : decode cX12_addProtocol 82 = .ok (.sipush 560, 3)) (by decide +kernel) ?_
            refine r_iload_n hB 1 rfl (by decide +kernel : decode cX12_addProtocol 85 = .ok (.iload_n 1, 1)) rfl ?_
            refine r_iconst hB (v := 2) (by decide +kernel : decode cX12_addProtocol 86 = .ok (.iconst 2, 1)) (by decide +kernel) ?_
            refine r_icmp_ne hB (tgt := 94) (by decide +kernel : decode cX12_addProtocol 87 = .ok (.if_icmp .ne 7, 3)) (by decide) hf (fun _ hf => ?_) (fun _ hf => ?_)
            · refine r_iconst hB (v := 0) (by decide +kernel : decode cX12_addProtocol 90 = .ok (.iconst 0, 1)) (by decide +kernel) ?_
              refine r_goto hB (tgt := 97) (by decide +kernel : decode cX12_addProtocol 91 = .ok (.goto 6, 3)) (by decide) ?_
              exact WW.sub [0, 1] rfl (t_X12_addProtocol_97 hB hf hk)
            · refine r_sipush hB (v := 560) (by decide +kernel : decode cX12_addProtocol 94 = .ok (.sipush 560, 3)) (by decide +kernel) ?_
              exact WW.sub [0, 1] rfl (t_X12_addProtocol_97 hB hf hk)
theorem m_X12_addProtocol (l : Launch) (D : va_G) (cy : Nat → ClassId) (b : Nat) {l0 : Nat} {l1 : Int32} {l2 : Int32} {l3 : Int32} {l4 : Int32} {μ : MS} {z : Int32 × MS} (hf : f_X12_addProtocol l0 l1 l2 l3 l4 μ = some z) : Met l yX12_addProtocol (.code yX12_addProtocol cX12_addProtocol 5 (some .int) :: GW) rmX12_addProtocol (Pw D cy b [.ref (b + l0), .int l1, .int l2, .int l3, .int l4] μ) (Qw D cy b (some (.int z.1)) (z.2)) rmX12_addProtocol.cells rmX12_addProtocol.slots (fun q => b ≤ q) :=
  met_of (by decide) (Nat.le_of_ble_eq_true rfl) (fun X hB _ => (t_X12_addProtocol_0 hB hf ⟨rfl, rfl⟩))
-- PulseRemoteModel.setLengths(IIIIII)I
set_option maxHeartbeats 4000000 in
set_option maxRecDepth 100000 in
theorem t_X12_setLengths_0 {X : BX} {D : va_G} {cy : Nat → ClassId} {b : Nat} {r : Option Value} {μ' : MS} (hB : BB X D cy b yX12_setLengths cX12_setLengths 8 (some .int) rmX12_setLengths) {l0 : Nat} {l1 : Int32} {l2 : Int32} {l3 : Int32} {l4 : Int32} {l5 : Int32} {l6 : Int32} {μ : MS} {z : (Int32 × MS)} (hf : f_X12_setLengths l0 l1 l2 l3 l4 l5 l6 μ = some z) (hk : (fun z : Int32 × MS => r = some (.int z.1) ∧ μ' = z.2) z) : WW X D cy b r μ' 8 0 0 0 [(0, .ref (b + l0)), (1, .int l1), (2, .int l2), (3, .int l3), (4, .int l4), (5, .int l5), (6, .int l6)] [] μ := by
  unfold f_X12_setLengths at hf
  refine r_aload_n hB 0 rfl (by decide +kernel : decode cX12_setLengths 0 = .ok (.aload_n 0, 1)) rfl ?_
  refine r_iload_n hB 1 rfl (by decide +kernel : decode cX12_setLengths 1 = .ok (.iload_n 1, 1)) rfl ?_
  refine r_cVi hB [.int l1] [] cf12 (own := "PulseRemoteModel") rfl cmX12_isProtocol imX12_isProtocol (Or.inl k_1255) (by decide) rfl rfl rfl (Nat.le_of_ble_eq_true rfl) (by decide +kernel : decode cX12_setLengths 2 = .ok (.invokevirtual 91, 3)) (fun z hz => m_X12_isProtocol _ _ _ _ hz) rfl hf (fun z2 hf => ?_)
  refine r_if_eq hB (tgt := 33) (by decide +kernel : decode cX12_setLengths 5 = .ok (.ifCond .eq 28, 3)) (by decide) hf (fun _ hf => ?_) (fun _ hf => ?_)
  · refine r_iconst hB (v := (-1)) (by decide +kernel : decode cX12_setLengths 33 = .ok (.iconst (-1), 1)) (by decide +kernel) ?_
    obtain rfl := Option.some.inj hf
    obtain ⟨rfl, rfl⟩ := hk
    exact r_iret hB (by decide +kernel : decode cX12_setLengths 34 = .ok (.ireturn, 1))
  · refine r_aload_n hB 0 rfl (by decide +kernel : decode cX12_setLengths 8 = .ok (.aload_n 0, 1)) rfl ?_
    refine r_gR hB cf12 0 (by decide) (own := "PulseRemoteModel") rfl (Or.inl k_1115) (by decide +kernel) (by decide +kernel : decode cX12_setLengths 9 = .ok (.getfield 7, 3)) hf (fun x9 hf => ?_)
    refine r_iload_n hB 1 rfl (by decide +kernel : decode cX12_setLengths 12 = .ok (.iload_n 1, 1)) rfl ?_
    refine r_cSi hB [.int l1] [.ref (b + x9)] (own := "PulseRemoteModel") rfl cmX12_at smX12_at (Or.inl ⟨rfl, k_1244⟩) (by decide) rfl rfl rfl (Nat.le_of_ble_eq_true rfl) (by decide +kernel : decode cX12_setLengths 13 = .ok (.invokestatic 72, 3)) (fun z hz => m_X12_at _ _ _ _ hz) rfl hf (fun z13 hf => ?_)
    refine r_iconst hB (v := 0) (by decide +kernel : decode cX12_setLengths 16 = .ok (.iconst 0, 1)) (by decide +kernel) ?_
    refine r_iadd hB (by decide +kernel : decode cX12_setLengths 17 = .ok (.iadd, 1)) ?_
    refine r_iald hB (by decide +kernel : decode cX12_setLengths 18 = .ok (.iaload, 1)) hf (fun x18 hf => ?_)
    refine r_iload_n hB 2 rfl (by decide +kernel : decode cX12_setLengths 19 = .ok (.iload_n 2, 1)) rfl ?_
    refine r_iload_n hB 3 rfl (by decide +kernel : decode cX12_setLengths 20 = .ok (.iload_n 3, 1)) rfl ?_
    refine r_iload hB 4 rfl (by decide +kernel : decode cX12_setLengths 21 = .ok (.iload 4, 2)) ?_
    refine r_iload hB 5 rfl (by decide +kernel : decode cX12_setLengths 23 = .ok (.iload 5, 2)) ?_
    refine r_iload hB 6 rfl (by decide +kernel : decode cX12_setLengths 25 = .ok (.iload 6, 2)) ?_
    refine r_cSi hB [.int x18, .int l2, .int l3, .int l4, .int l5, .int l6] [] (own := "PulseRemoteModel") rfl cmX12_areLengths smX12_areLengths (Or.inl ⟨rfl, k_1259⟩) (by decide) rfl rfl rfl (Nat.le_of_ble_eq_true rfl) (by decide +kernel : decode cX12_setLengths 27 = .ok (.invokestatic 94, 3)) (fun z hz => m_X12_areLengths _ _ _ _ hz) rfl hf (fun z27 hf => ?_)
    refine r_if_ne hB (tgt := 35) (by decide +kernel : decode cX12_setLengths 30 = .ok (.ifCond .ne 5, 3)) (by decide) hf (fun _ hf => ?_) (fun _ hf => ?_)
    · refine r_iconst hB (v := (-1)) (by decide +kernel : decode cX12_setLengths 33 = .ok (.iconst (-1), 1)) (by decide +kernel) ?_
      obtain rfl := Option.some.inj hf
      obtain ⟨rfl, rfl⟩ := hk
      exact r_iret hB (by decide +kernel : decode cX12_setLengths 34 = .ok (.ireturn, 1))
    · refine r_aload_n hB 0 rfl (by decide +kernel : decode cX12_setLengths 35 = .ok (.aload_n 0, 1)) rfl ?_
      refine r_cVv hB [] [] cf12 (own := "PulseRemoteModel") rfl cmX12_note imX12_note (Or.inl k_1236) (by decide) rfl rfl rfl (Nat.le_of_ble_eq_true rfl) (by decide +kernel : decode cX12_setLengths 36 = .ok (.invokevirtual 80, 3)) (fun z hz => m_X12_note _ _ _ _ hz) rfl hf (fun z36 hf => ?_)
      refine r_aload_n hB 0 rfl (by decide +kernel : decode cX12_setLengths 39 = .ok (.aload_n 0, 1)) rfl ?_
      refine r_gR hB cf12 0 (by decide) (own := "PulseRemoteModel") rfl (Or.inl k_1115) (by decide +kernel) (by decide +kernel : decode cX12_setLengths 40 = .ok (.getfield 7, 3)) hf (fun x40 hf => ?_)
      refine r_iload_n hB 1 rfl (by decide +kernel : decode cX12_setLengths 43 = .ok (.iload_n 1, 1)) rfl ?_
      refine r_cSi hB [.int l1] [.ref (b + x40)] (own := "PulseRemoteModel") rfl cmX12_at smX12_at (Or.inl ⟨rfl, k_1244⟩) (by decide) rfl rfl rfl (Nat.le_of_ble_eq_true rfl) (by decide +kernel : decode cX12_setLengths 44 = .ok (.invokestatic 72, 3)) (fun z hz => m_X12_at _ _ _ _ hz) rfl hf (fun z44 hf => ?_)
      refine r_iconst hB (v := 3) (by decide +kernel : decode cX12_setLengths 47 = .ok (.iconst 3, 1)) (by decide +kernel) ?_
      refine r_iadd hB (by decide +kernel : decode cX12_setLengths 48 = .ok (.iadd, 1)) ?_
      refine r_iald hB (by decide +kernel : decode cX12_setLengths 49 = .ok (.iaload, 1)) hf (fun x49 hf => ?_)
      refine r_istore hB (by decide +kernel : decode cX12_setLengths 50 = .ok (.istore 7, 2)) (by decide) rfl ?_
      refine ww_lv (lv' := [(7, .int x49), (0, .ref (b + l0)), (1, .int l1), (2, .int l2), (3, .int l3), (4, .int l4), (5, .int l5), (6, .int l6)]) rfl ?_
      refine r_aload_n hB 1 rfl (by decide +kernel : decode cX12_setLengths 52 = .ok (.aload_n 0, 1)) rfl ?_
      refine r_iload_n hB 2 rfl (by decide +kernel : decode cX12_setLengths 53 = .ok (.iload_n 1, 1)) rfl ?_
      refine r_iload_n hB 3 rfl (by decide +kernel : decode cX12_setLengths 54 = .ok (.iload_n 2, 1)) rfl ?_
      refine r_iload_n hB 4 rfl (by decide +kernel : decode cX12_setLengths 55 = .ok (.iload_n 3, 1)) rfl ?_
      refine r_iload hB 5 rfl (by decide +kernel : decode cX12_setLengths 56 = .ok (.iload 4, 2)) ?_
      refine r_iload hB 6 rfl (by decide +kernel : decode cX12_setLengths 58 = .ok (.iload 5, 2)) ?_
      refine r_iload hB 7 rfl (by decide +kernel : decode cX12_setLengths 60 = .ok (.iload 6, 2)) ?_
      refine r_cVv hB [.int l1, .int l2, .int l3, .int l4, .int l5, .int l6] [] cf12 (own := "PulseRemoteModel") rfl cmX12_setsLengths imX12_setsLengths (Or.inl k_1247) (by decide) rfl rfl rfl (Nat.le_of_ble_eq_true rfl) (by decide +kernel : decode cX12_setLengths 62 = .ok (.invokevirtual 87, 3)) (fun z hz => m_X12_setsLengths _ _ _ _ hz) rfl hf (fun z62 hf => ?_)
      refine r_iload hB 0 rfl (by decide +kernel : decode cX12_setLengths 65 = .ok (.iload 7, 2)) ?_
      obtain rfl := Option.some.inj hf
      obtain ⟨rfl, rfl⟩ := hk
      exact r_iret hB (by decide +kernel : decode cX12_setLengths 67 = .ok (.ireturn, 1))
theorem m_X12_setLengths (l : Launch) (D : va_G) (cy : Nat → ClassId) (b : Nat) {l0 : Nat} {l1 : Int32} {l2 : Int32} {l3 : Int32} {l4 : Int32} {l5 : Int32} {l6 : Int32} {μ : MS} {z : Int32 × MS} (hf : f_X12_setLengths l0 l1 l2 l3 l4 l5 l6 μ = some z) : Met l yX12_setLengths (.code yX12_setLengths cX12_setLengths 8 (some .int) :: GW) rmX12_setLengths (Pw D cy b [.ref (b + l0), .int l1, .int l2, .int l3, .int l4, .int l5, .int l6] μ) (Qw D cy b (some (.int z.1)) (z.2)) rmX12_setLengths.cells rmX12_setLengths.slots (fun q => b ≤ q) :=
  met_of (by decide) (Nat.le_of_ble_eq_true rfl) (fun X hB _ => (t_X12_setLengths_0 hB hf ⟨rfl, rfl⟩))
-- PulseRemoteModel.protocol(II)I
set_option maxHeartbeats 4000000 in
set_option maxRecDepth 100000 in
theorem t_X12_protocol_0 {X : BX} {D : va_G} {cy : Nat → ClassId} {b : Nat} {r : Option Value} {μ' : MS} (hB : BB X D cy b yX12_protocol cX12_protocol 3 (some .int) rmX12_protocol) {l0 : Nat} {l1 : Int32} {l2 : Int32} {μ : MS} {z : (Int32 × MS)} (hf : f_X12_protocol l0 l1 l2 μ = some z) (hk : (fun z : Int32 × MS => r = some (.int z.1) ∧ μ' = z.2) z) : WW X D cy b r μ' 3 0 0 0 [(0, .ref (b + l0)), (1, .int l1), (2, .int l2)] [] μ := by
  unfold f_X12_protocol at hf
  refine r_aload_n hB 0 rfl (by decide +kernel : decode cX12_protocol 0 = .ok (.aload_n 0, 1)) rfl ?_
  refine r_iload_n hB 1 rfl (by decide +kernel : decode cX12_protocol 1 = .ok (.iload_n 1, 1)) rfl ?_
  refine r_cVi hB [.int l1] [] cf12 (own := "PulseRemoteModel") rfl cmX12_isProtocol imX12_isProtocol (Or.inl k_1255) (by decide) rfl rfl rfl (Nat.le_of_ble_eq_true rfl) (by decide +kernel : decode cX12_protocol 2 = .ok (.invokevirtual 91, 3)) (fun z hz => m_X12_isProtocol _ _ _ _ hz) rfl hf (fun z2 hf => ?_)
  refine r_if_eq hB (tgt := 32) (by decide +kernel : decode cX12_protocol 5 = .ok (.ifCond .eq 27, 3)) (by decide) hf (fun _ hf => ?_) (fun _ hf => ?_)
  · refine r_iconst hB (v := (-1)) (by decide +kernel : decode cX12_protocol 32 = .ok (.iconst (-1), 1)) (by decide +kernel) ?_
    obtain rfl := Option.some.inj hf
    obtain ⟨rfl, rfl⟩ := hk
    exact r_iret hB (by decide +kernel : decode cX12_protocol 33 = .ok (.ireturn, 1))
  · refine r_iload_n hB 2 rfl (by decide +kernel : decode cX12_protocol 8 = .ok (.iload_n 2, 1)) rfl ?_
    refine r_iconst hB (v := 0) (by decide +kernel : decode cX12_protocol 9 = .ok (.iconst 0, 1)) (by decide +kernel) ?_
    refine r_bipush hB (v := 8) (by decide +kernel : decode cX12_protocol 10 = .ok (.bipush 8, 2)) (by decide +kernel) ?_
    refine r_cSi hB [.int l2, .int 0, .int 8] [] (own := "PulseRemoteModel") rfl cmX12_in smX12_in (Or.inl ⟨rfl, k_1233⟩) (by decide) rfl rfl rfl (Nat.le_of_ble_eq_true rfl) (by decide +kernel : decode cX12_protocol 12 = .ok (.invokestatic 68, 3)) (fun z hz => m_X12_in _ _ _ _ hz) rfl hf (fun z12 hf => ?_)
    refine r_if_eq hB (tgt := 32) (by decide +kernel : decode cX12_protocol 15 = .ok (.ifCond .eq 17, 3)) (by decide) hf (fun _ hf => ?_) (fun _ hf => ?_)
    · refine r_iconst hB (v := (-1)) (by decide +kernel : decode cX12_protocol 32 = .ok (.iconst (-1), 1)) (by decide +kernel) ?_
      obtain rfl := Option.some.inj hf
      obtain ⟨rfl, rfl⟩ := hk
      exact r_iret hB (by decide +kernel : decode cX12_protocol 33 = .ok (.ireturn, 1))
    · refine r_aload_n hB 0 rfl (by decide +kernel : decode cX12_protocol 18 = .ok (.aload_n 0, 1)) rfl ?_
      refine r_gR hB cf12 0 (by decide) (own := "PulseRemoteModel") rfl (Or.inl k_1115) (by decide +kernel) (by decide +kernel : decode cX12_protocol 19 = .ok (.getfield 7, 3)) hf (fun x19 hf => ?_)
      refine r_iload_n hB 1 rfl (by decide +kernel : decode cX12_protocol 22 = .ok (.iload_n 1, 1)) rfl ?_
      refine r_cSi hB [.int l1] [.ref (b + x19)] (own := "PulseRemoteModel") rfl cmX12_at smX12_at (Or.inl ⟨rfl, k_1244⟩) (by decide) rfl rfl rfl (Nat.le_of_ble_eq_true rfl) (by decide +kernel : decode cX12_protocol 23 = .ok (.invokestatic 72, 3)) (fun z hz => m_X12_at _ _ _ _ hz) rfl hf (fun z23 hf => ?_)
      refine r_iload_n hB 2 rfl (by decide +kernel : decode cX12_protocol 26 = .ok (.iload_n 2, 1)) rfl ?_
      refine r_iadd hB (by decide +kernel : decode cX12_protocol 27 = .ok (.iadd, 1)) ?_
      refine r_iald hB (by decide +kernel : decode cX12_protocol 28 = .ok (.iaload, 1)) hf (fun x28 hf => ?_)
      refine r_goto hB (tgt := 33) (by decide +kernel : decode cX12_protocol 29 = .ok (.goto 4, 3)) (by decide) ?_
      obtain rfl := Option.some.inj hf
      obtain ⟨rfl, rfl⟩ := hk
      exact r_iret hB (by decide +kernel : decode cX12_protocol 33 = .ok (.ireturn, 1))
theorem m_X12_protocol (l : Launch) (D : va_G) (cy : Nat → ClassId) (b : Nat) {l0 : Nat} {l1 : Int32} {l2 : Int32} {μ : MS} {z : Int32 × MS} (hf : f_X12_protocol l0 l1 l2 μ = some z) : Met l yX12_protocol (.code yX12_protocol cX12_protocol 3 (some .int) :: GW) rmX12_protocol (Pw D cy b [.ref (b + l0), .int l1, .int l2] μ) (Qw D cy b (some (.int z.1)) (z.2)) rmX12_protocol.cells rmX12_protocol.slots (fun q => b ≤ q) :=
  met_of (by decide) (Nat.le_of_ble_eq_true rfl) (fun X hB _ => (t_X12_protocol_0 hB hf ⟨rfl, rfl⟩))
-- PulseRemoteModel.count(I)I
set_option maxHeartbeats 4000000 in
set_option maxRecDepth 100000 in
theorem t_X12_count_0 {X : BX} {D : va_G} {cy : Nat → ClassId} {b : Nat} {r : Option Value} {μ' : MS} (hB : BB X D cy b yX12_count cX12_count 2 (some .int) rmX12_count) {l0 : Nat} {l1 : Int32} {μ : MS} {z : (Int32 × MS)} (hf : f_X12_count l0 l1 μ = some z) (hk : (fun z : Int32 × MS => r = some (.int z.1) ∧ μ' = z.2) z) : WW X D cy b r μ' 2 0 0 0 [(0, .ref (b + l0)), (1, .int l1)] [] μ := by
  unfold f_X12_count at hf
  refine r_iload_n hB 1 rfl (by decide +kernel : decode cX12_count 0 = .ok (.iload_n 1, 1)) rfl ?_
  rcases if_inv hf with ⟨hc, hf⟩ | ⟨h_0, hf⟩
  · rw [hc]
    refine r_tabIn hB (off := 31) (tgt := 32) (by decide +kernel : decode cX12_count 1 = .ok (.tableswitch 56 0 3 #[31, 38, 46, 51], 31)) (by decide) (by decide) (by decide +kernel) (by decide) ?_
    refine r_aload_n hB 0 rfl (by decide +kernel : decode cX12_count 32 = .ok (.aload_n 0, 1)) rfl ?_
    refine r_gR hB cf12 0 (by decide) (own := "PulseRemoteModel") rfl (Or.inl k_1115) (by decide +kernel) (by decide +kernel : decode cX12_count 33 = .ok (.getfield 7, 3)) hf (fun x33 hf => ?_)
    refine r_iconst hB (v := 3) (by decide +kernel : decode cX12_count 36 = .ok (.iconst 3, 1)) (by decide +kernel) ?_
    refine r_iald hB (by decide +kernel : decode cX12_count 37 = .ok (.iaload, 1)) hf (fun x37 hf => ?_)
    obtain rfl := Option.some.inj hf
    obtain ⟨rfl, rfl⟩ := hk
    exact r_iret hB (by decide +kernel : decode cX12_count 38 = .ok (.ireturn, 1))
  rcases if_inv hf with ⟨hc, hf⟩ | ⟨h_1, hf⟩
  · rw [hc]
    refine r_tabIn hB (off := 38) (tgt := 39) (by decide +kernel : decode cX12_count 1 = .ok (.tableswitch 56 0 3 #[31, 38, 46, 51], 31)) (by decide) (by decide) (by decide +kernel) (by decide) ?_
    refine r_aload_n hB 0 rfl (by decide +kernel : decode cX12_count 39 = .ok (.aload_n 0, 1)) rfl ?_
    refine r_gR hB cf12 0 (by decide) (own := "PulseRemoteModel") rfl (Or.inl k_1115) (by decide +kernel) (by decide +kernel : decode cX12_count 40 = .ok (.getfield 7, 3)) hf (fun x40 hf => ?_)
    refine r_bipush hB (v := 58) (by decide +kernel : decode cX12_count 43 = .ok (.bipush 58, 2)) (by decide +kernel) ?_
    refine r_iald hB (by decide +kernel : decode cX12_count 45 = .ok (.iaload, 1)) hf (fun x45 hf => ?_)
    obtain rfl := Option.some.inj hf
    obtain ⟨rfl, rfl⟩ := hk
    exact r_iret hB (by decide +kernel : decode cX12_count 46 = .ok (.ireturn, 1))
  rcases if_inv hf with ⟨hc, hf⟩ | ⟨h_2, hf⟩
  · rw [hc]
    refine r_tabIn hB (off := 46) (tgt := 47) (by decide +kernel : decode cX12_count 1 = .ok (.tableswitch 56 0 3 #[31, 38, 46, 51], 31)) (by decide) (by decide) (by decide +kernel) (by decide) ?_
    refine r_aload_n hB 0 rfl (by decide +kernel : decode cX12_count 47 = .ok (.aload_n 0, 1)) rfl ?_
    refine r_gI hB cf12 4 (by decide) (own := "PulseRemoteModel") rfl (Or.inl k_1119) (by decide +kernel) (by decide +kernel : decode cX12_count 48 = .ok (.getfield 98, 3)) hf (fun x48 hf => ?_)
    obtain rfl := Option.some.inj hf
    obtain ⟨rfl, rfl⟩ := hk
    exact r_iret hB (by decide +kernel : decode cX12_count 51 = .ok (.ireturn, 1))
  rcases if_inv hf with ⟨hc, hf⟩ | ⟨h_3, hf⟩
  · rw [hc]
    refine r_tabIn hB (off := 51) (tgt := 52) (by decide +kernel : decode cX12_count 1 = .ok (.tableswitch 56 0 3 #[31, 38, 46, 51], 31)) (by decide) (by decide) (by decide +kernel) (by decide) ?_
    refine r_aload_n hB 0 rfl (by decide +kernel : decode cX12_count 52 = .ok (.aload_n 0, 1)) rfl ?_
    refine r_gI hB cf12 2 (by decide) (own := "PulseRemoteModel") rfl (Or.inl k_1117) (by decide +kernel) (by decide +kernel : decode cX12_count 53 = .ok (.getfield 64, 3)) hf (fun x53 hf => ?_)
    obtain rfl := Option.some.inj hf
    obtain ⟨rfl, rfl⟩ := hk
    exact r_iret hB (by decide +kernel : decode cX12_count 56 = .ok (.ireturn, 1))
  refine r_tabOut hB (tgt := 57) (by decide +kernel : decode cX12_count 1 = .ok (.tableswitch 56 0 3 #[31, 38, 46, 51], 31)) (by
    have g_0 := lv_neT (a := 0) h_0 (by decide)
    have g_1 := lv_neT (a := 1) h_1 (by decide)
    have g_2 := lv_neT (a := 2) h_2 (by decide)
    have g_3 := lv_neT (a := 3) h_3 (by decide)
    omega) (by decide) ?_
  refine r_iconst hB (v := (-1)) (by decide +kernel : decode cX12_count 57 = .ok (.iconst (-1), 1)) (by decide +kernel) ?_
  obtain rfl := Option.some.inj hf
  obtain ⟨rfl, rfl⟩ := hk
  exact r_iret hB (by decide +kernel : decode cX12_count 58 = .ok (.ireturn, 1))
theorem m_X12_count (l : Launch) (D : va_G) (cy : Nat → ClassId) (b : Nat) {l0 : Nat} {l1 : Int32} {μ : MS} {z : Int32 × MS} (hf : f_X12_count l0 l1 μ = some z) : Met l yX12_count (.code yX12_count cX12_count 2 (some .int) :: GW) rmX12_count (Pw D cy b [.ref (b + l0), .int l1] μ) (Qw D cy b (some (.int z.1)) (z.2)) rmX12_count.cells rmX12_count.slots (fun q => b ≤ q) :=
  met_of (by decide) (Nat.le_of_ble_eq_true rfl) (fun X hB _ => (t_X12_count_0 hB hf ⟨rfl, rfl⟩))
-- PulseRemoteModel.identity(II)I
set_option maxHeartbeats 4000000 in
set_option maxRecDepth 100000 in
theorem t_X12_identity_33 {X : BX} {D : va_G} {cy : Nat → ClassId} {b : Nat} {r : Option Value} {μ' : MS} (hB : BB X D cy b yX12_identity cX12_identity 4 (some .int) rmX12_identity) {l0 : Nat} {l1 : Int32} {l2 : Int32} {s0 : Int32} {μ : MS} {z : (Int32 × MS)} (hf : f_X12_identity_33 l0 l1 l2 s0 μ = some z) (hk : (fun z : Int32 × MS => r = some (.int z.1) ∧ μ' = z.2) z) : WW X D cy b r μ' 4 0 0 33 [(0, .ref (b + l0)), (1, .int l1), (2, .int l2)] [.int s0] μ := by
  unfold f_X12_identity_33 at hf
  refine r_istore_n hB (by decide +kernel : decode cX12_identity 33 = .ok (.istore_n 3, 1)) rfl (by decide) rfl ?_
  refine ww_lv (lv' := [(3, .int s0), (0, .ref (b + l0)), (1, .int l1), (2, .int l2)]) rfl ?_
  refine r_aload_n hB 1 rfl (by decide +kernel : decode cX12_identity 34 = .ok (.aload_n 0, 1)) rfl ?_
  refine r_gR hB cf12 0 (by decide) (own := "PulseRemoteModel") rfl (Or.inl k_1115) (by decide +kernel) (by decide +kernel : decode cX12_identity 35 = .ok (.getfield 7, 3)) hf (fun x35 hf => ?_)
  refine r_iload_n hB 2 rfl (by decide +kernel : decode cX12_identity 38 = .ok (.iload_n 1, 1)) rfl ?_
  refine r_cSi hB [.int l1] [.ref (b + x35)] (own := "PulseRemoteModel") rfl cmX12_at smX12_at (Or.inl ⟨rfl, k_1244⟩) (by decide) rfl rfl rfl (Nat.le_of_ble_eq_true rfl) (by decide +kernel : decode cX12_identity 39 = .ok (.invokestatic 72, 3)) (fun z hz => m_X12_at _ _ _ _ hz) rfl hf (fun z39 hf => ?_)
  refine r_bipush hB (v := 8) (by decide +kernel : decode cX12_identity 42 = .ok (.bipush 8, 2)) (by decide +kernel) ?_
  refine r_iadd hB (by decide +kernel : decode cX12_identity 44 = .ok (.iadd, 1)) ?_
  refine r_iald hB (by decide +kernel : decode cX12_identity 45 = .ok (.iaload, 1)) hf (fun x45 hf => ?_)
  refine r_iconst hB (v := 2) (by decide +kernel : decode cX12_identity 46 = .ok (.iconst 2, 1)) (by decide +kernel) ?_
  refine r_icmp_ne hB (tgt := 60) (by decide +kernel : decode cX12_identity 47 = .ok (.if_icmp .ne 13, 3)) (by decide) hf (fun _ hf => ?_) (fun _ hf => ?_)
  · refine r_iload_n hB 3 rfl (by decide +kernel : decode cX12_identity 50 = .ok (.iload_n 2, 1)) rfl ?_
    refine r_iconst hB (v := 1) (by decide +kernel : decode cX12_identity 51 = .ok (.iconst 1, 1)) (by decide +kernel) ?_
    refine r_iload_n hB 0 rfl (by decide +kernel : decode cX12_identity 52 = .ok (.iload_n 3, 1)) rfl ?_
    refine r_ishl hB (by decide +kernel : decode cX12_identity 53 = .ok (.ishl, 1)) ?_
    refine r_iconst hB (v := (-1)) (by decide +kernel : decode cX12_identity 54 = .ok (.iconst (-1), 1)) (by decide +kernel) ?_
    refine r_ixor hB (by decide +kernel : decode cX12_identity 55 = .ok (.ixor, 1)) ?_
    refine r_iand hB (by decide +kernel : decode cX12_identity 56 = .ok (.iand, 1)) ?_
    refine r_goto hB (tgt := 61) (by decide +kernel : decode cX12_identity 57 = .ok (.goto 4, 3)) (by decide) ?_
    obtain rfl := Option.some.inj hf
    obtain ⟨rfl, rfl⟩ := hk
    exact r_iret hB (by decide +kernel : decode cX12_identity 61 = .ok (.ireturn, 1))
  · refine r_iload_n hB 3 rfl (by decide +kernel : decode cX12_identity 60 = .ok (.iload_n 2, 1)) rfl ?_
    obtain rfl := Option.some.inj hf
    obtain ⟨rfl, rfl⟩ := hk
    exact r_iret hB (by decide +kernel : decode cX12_identity 61 = .ok (.ireturn, 1))
set_option maxHeartbeats 4000000 in
set_option maxRecDepth 100000 in
theorem t_X12_identity_0 {X : BX} {D : va_G} {cy : Nat → ClassId} {b : Nat} {r : Option Value} {μ' : MS} (hB : BB X D cy b yX12_identity cX12_identity 4 (some .int) rmX12_identity) {l0 : Nat} {l1 : Int32} {l2 : Int32} {μ : MS} {z : (Int32 × MS)} (hf : f_X12_identity l0 l1 l2 μ = some z) (hk : (fun z : Int32 × MS => r = some (.int z.1) ∧ μ' = z.2) z) : WW X D cy b r μ' 4 0 0 0 [(0, .ref (b + l0)), (1, .int l1), (2, .int l2)] [] μ := by
  unfold f_X12_identity at hf
  refine r_aload_n hB 0 rfl (by decide +kernel : decode cX12_identity 0 = .ok (.aload_n 0, 1)) rfl ?_
  refine r_gR hB cf12 0 (by decide) (own := "PulseRemoteModel") rfl (Or.inl k_1115) (by decide +kernel) (by decide +kernel : decode cX12_identity 1 = .ok (.getfield 7, 3)) hf (fun x1 hf => ?_)
  refine r_iload_n hB 1 rfl (by decide +kernel : decode cX12_identity 4 = .ok (.iload_n 1, 1)) rfl ?_
  refine r_cSi hB [.int l1] [.ref (b + x1)] (own := "PulseRemoteModel") rfl cmX12_at smX12_at (Or.inl ⟨rfl, k_1244⟩) (by decide) rfl rfl rfl (Nat.le_of_ble_eq_true rfl) (by decide +kernel : decode cX12_identity 5 = .ok (.invokestatic 72, 3)) (fun z hz => m_X12_at _ _ _ _ hz) rfl hf (fun z5 hf => ?_)
  refine r_bipush hB (v := 7) (by decide +kernel : decode cX12_identity 8 = .ok (.bipush 7, 2)) (by decide +kernel) ?_
  refine r_iadd hB (by decide +kernel : decode cX12_identity 10 = .ok (.iadd, 1)) ?_
  refine r_iald hB (by decide +kernel : decode cX12_identity 11 = .ok (.iaload, 1)) hf (fun x11 hf => ?_)
  refine r_if_ne hB (tgt := 32) (by decide +kernel : decode cX12_identity 12 = .ok (.ifCond .ne 20, 3)) (by decide) hf (fun _ hf => ?_) (fun _ hf => ?_)
  · refine r_aload_n hB 0 rfl (by decide +kernel : decode cX12_identity 15 = .ok (.aload_n 0, 1)) rfl ?_
    refine r_gR hB cf12 0 (by decide) (own := "PulseRemoteModel") rfl (Or.inl k_1115) (by decide +kernel) (by decide +kernel : decode cX12_identity 16 = .ok (.getfield 7, 3)) hf (fun x16 hf => ?_)
    refine r_iload_n hB 1 rfl (by decide +kernel : decode cX12_identity 19 = .ok (.iload_n 1, 1)) rfl ?_
    refine r_cSi hB [.int l1] [.ref (b + x16)] (own := "PulseRemoteModel") rfl cmX12_at smX12_at (Or.inl ⟨rfl, k_1244⟩) (by decide) rfl rfl rfl (Nat.le_of_ble_eq_true rfl) (by decide +kernel : decode cX12_identity 20 = .ok (.invokestatic 72, 3)) (fun z hz => m_X12_at _ _ _ _ hz) rfl hf (fun z20 hf => ?_)
    refine r_bipush hB (v := 6) (by decide +kernel : decode cX12_identity 23 = .ok (.bipush 6, 2)) (by decide +kernel) ?_
    refine r_iadd hB (by decide +kernel : decode cX12_identity 25 = .ok (.iadd, 1)) ?_
    refine r_iald hB (by decide +kernel : decode cX12_identity 26 = .ok (.iaload, 1)) hf (fun x26 hf => ?_)
    refine r_iconst hB (v := 1) (by decide +kernel : decode cX12_identity 27 = .ok (.iconst 1, 1)) (by decide +kernel) ?_
    refine r_isub hB (by decide +kernel : decode cX12_identity 28 = .ok (.isub, 1)) ?_
    refine r_goto hB (tgt := 33) (by decide +kernel : decode cX12_identity 29 = .ok (.goto 4, 3)) (by decide) ?_
    exact WW.sub [0, 1, 2] rfl (t_X12_identity_33 hB hf hk)
  · refine r_iconst hB (v := 0) (by decide +kernel : decode cX12_identity 32 = .ok (.iconst 0, 1)) (by decide +kernel) ?_
    exact WW.sub [0, 1, 2] rfl (t_X12_identity_33 hB hf hk)
theorem m_X12_identity (l : Launch) (D : va_G) (cy : Nat → ClassId) (b : Nat) {l0 : Nat} {l1 : Int32} {l2 : Int32} {μ : MS} {z : Int32 × MS} (hf : f_X12_identity l0 l1 l2 μ = some z) : Met l yX12_identity (.code yX12_identity cX12_identity 4 (some .int) :: GW) rmX12_identity (Pw D cy b [.ref (b + l0), .int l1, .int l2] μ) (Qw D cy b (some (.int z.1)) (z.2)) rmX12_identity.cells rmX12_identity.slots (fun q => b ≤ q) :=
  met_of (by decide) (Nat.le_of_ble_eq_true rfl) (fun X hB _ => (t_X12_identity_0 hB hf ⟨rfl, rfl⟩))
-- PulseRemoteModel.buttonOf(II)I
set_option maxHeartbeats 4000000 in
set_option maxRecDepth 100000 in
theorem t_X12_buttonOf_53 {X : BX} {D : va_G} {cy : Nat → ClassId} {b : Nat} {r : Option Value} {μ' : MS} (hB : BB X D cy b yX12_buttonOf cX12_buttonOf 4 (some .int) rmX12_buttonOf)  {μ : MS} {z : (Int32 × MS)} (hf : f_X12_buttonOf_53  μ = some z) (hk : (fun z : Int32 × MS => r = some (.int z.1) ∧ μ' = z.2) z) : WW X D cy b r μ' 4 0 0 53 [] [] μ := by
  unfold f_X12_buttonOf_53 at hf
  refine r_bipush hB (v := (-9)) (by decide +kernel : decode cX12_buttonOf 53 = .ok (.bipush (-9), 2)) (by decide +kernel) ?_
  obtain rfl := Option.some.inj hf
  obtain ⟨rfl, rfl⟩ := hk
  exact r_iret hB (by decide +kernel : decode cX12_buttonOf 55 = .ok (.ireturn, 1))
set_option maxHeartbeats 4000000 in
set_option maxRecDepth 100000 in
theorem t_X12_buttonOf_45 {X : BX} {D : va_G} {cy : Nat → ClassId} {b : Nat} {r : Option Value} {μ' : MS} (hB : BB X D cy b yX12_buttonOf cX12_buttonOf 4 (some .int) rmX12_buttonOf) {l3 : Int32} {μ : MS} {z : (Int32 × MS)} (hf : f_X12_buttonOf_45 l3 μ = some z) (hk : (fun z : Int32 × MS => r = some (.int z.1) ∧ μ' = z.2) z) : WW X D cy b r μ' 4 0 0 45 [(3, .int l3)] [] μ := by
  unfold f_X12_buttonOf_45 at hf
  refine r_iload_n hB 0 rfl (by decide +kernel : decode cX12_buttonOf 45 = .ok (.iload_n 3, 1)) rfl ?_
  obtain rfl := Option.some.inj hf
  obtain ⟨rfl, rfl⟩ := hk
  exact r_iret hB (by decide +kernel : decode cX12_buttonOf 46 = .ok (.ireturn, 1))
set_option maxHeartbeats 4000000 in
set_option maxRecDepth 100000 in
theorem t_X12_buttonOf_47 {X : BX} {D : va_G} {cy : Nat → ClassId} {b : Nat} {r : Option Value} {μ' : MS} (hB : BB X D cy b yX12_buttonOf cX12_buttonOf 4 (some .int) rmX12_buttonOf) {l0 : Nat} {l1 : Int32} {l2 : Int32} {l3 : Int32} {μ : MS} {z : ((Nat × Int32 × Int32 × Int32 × MS) ⊕ (Int32 × MS))} (hf : f_X12_buttonOf_47 l0 l1 l2 l3 μ = some z) (hk : (Sum.elim (fun s : Nat × Int32 × Int32 × Int32 × MS => WW X D cy b r μ' 4 0 0 2 [(0, .ref (b + s.1)), (1, .int s.2.1), (2, .int s.2.2.1), (3, .int s.2.2.2.1)] [] s.2.2.2.2) (fun z : Int32 × MS => r = some (.int z.1) ∧ μ' = z.2)) z) : WW X D cy b r μ' 4 0 0 47 [(0, .ref (b + l0)), (1, .int l1), (2, .int l2), (3, .int l3)] [] μ := by
  unfold f_X12_buttonOf_47 at hf
  refine r_iincB hB 3 rfl (by decide +kernel : decode cX12_buttonOf 47 = .ok (.iinc 3 1, 3)) (w := 1) (by decide +kernel) (by decide) hf (fun v47 hf => ?_)
  refine ww_lv (lv' := [(3, .int v47), (0, .ref (b + l0)), (1, .int l1), (2, .int l2)]) rfl ?_
  refine r_goto hB (tgt := 2) (by decide +kernel : decode cX12_buttonOf 50 = .ok (.goto (-48), 3)) (by decide) ?_
  obtain rfl := Option.some.inj hf
  exact WW.sub [1, 2, 3, 0] rfl hk
set_option maxHeartbeats 4000000 in
set_option maxRecDepth 100000 in
theorem t_X12_buttonOf_2_b {X : BX} {D : va_G} {cy : Nat → ClassId} {b : Nat} {r : Option Value} {μ' : MS} (hB : BB X D cy b yX12_buttonOf cX12_buttonOf 4 (some .int) rmX12_buttonOf) {l0 : Nat} {l1 : Int32} {l2 : Int32} {l3 : Int32} {μ : MS} {z : ((Nat × Int32 × Int32 × Int32 × MS) ⊕ (Int32 × MS))} (hf : f_X12_buttonOf_2_b l0 l1 l2 l3 μ = some z) (hk : (Sum.elim (fun s : Nat × Int32 × Int32 × Int32 × MS => WW X D cy b r μ' 4 0 0 2 [(0, .ref (b + s.1)), (1, .int s.2.1), (2, .int s.2.2.1), (3, .int s.2.2.2.1)] [] s.2.2.2.2) (fun z : Int32 × MS => r = some (.int z.1) ∧ μ' = z.2)) z) : WW X D cy b r μ' 4 0 0 2 [(0, .ref (b + l0)), (1, .int l1), (2, .int l2), (3, .int l3)] [] μ := by
  unfold f_X12_buttonOf_2_b at hf
  refine r_iload_n hB 3 rfl (by decide +kernel : decode cX12_buttonOf 2 = .ok (.iload_n 3, 1)) rfl ?_
  refine r_aload_n hB 0 rfl (by decide +kernel : decode cX12_buttonOf 3 = .ok (.aload_n 0, 1)) rfl ?_
  refine r_gR hB cf12 0 (by decide) (own := "PulseRemoteModel") rfl (Or.inl k_1115) (by decide +kernel) (by decide +kernel : decode cX12_buttonOf 4 = .ok (.getfield 7, 3)) hf (fun x4 hf => ?_)
  refine r_bipush hB (v := 58) (by decide +kernel : decode cX12_buttonOf 7 = .ok (.bipush 58, 2)) (by decide +kernel) ?_
  refine r_iald hB (by decide +kernel : decode cX12_buttonOf 9 = .ok (.iaload, 1)) hf (fun x9 hf => ?_)
  refine r_icmp_ge hB (tgt := 53) (by decide +kernel : decode cX12_buttonOf 10 = .ok (.if_icmp .ge 43, 3)) (by decide) hf (fun _ hf => ?_) (fun _ hf => ?_)
  · obtain ⟨_, hx0, rfl⟩ := xr_inv hf
    exact WW.sub [] rfl (t_X12_buttonOf_53 hB hx0 hk)
  · refine r_aload_n hB 0 rfl (by decide +kernel : decode cX12_buttonOf 13 = .ok (.aload_n 0, 1)) rfl ?_
    refine r_gR hB cf12 0 (by decide) (own := "PulseRemoteModel") rfl (Or.inl k_1115) (by decide +kernel) (by decide +kernel : decode cX12_buttonOf 14 = .ok (.getfield 7, 3)) hf (fun x14 hf => ?_)
    refine r_bipush hB (v := 59) (by decide +kernel : decode cX12_buttonOf 17 = .ok (.bipush 59, 2)) (by decide +kernel) ?_
    refine r_iconst hB (v := 2) (by decide +kernel : decode cX12_buttonOf 19 = .ok (.iconst 2, 1)) (by decide +kernel) ?_
    refine r_iload_n hB 3 rfl (by decide +kernel : decode cX12_buttonOf 20 = .ok (.iload_n 3, 1)) rfl ?_
    refine r_imul hB (by decide +kernel : decode cX12_buttonOf 21 = .ok (.imul, 1)) ?_
    refine r_iadd hB (by decide +kernel : decode cX12_buttonOf 22 = .ok (.iadd, 1)) ?_
    refine r_iald hB (by decide +kernel : decode cX12_buttonOf 23 = .ok (.iaload, 1)) hf (fun x23 hf => ?_)
    refine r_iload_n hB 1 rfl (by decide +kernel : decode cX12_buttonOf 24 = .ok (.iload_n 1, 1)) rfl ?_
    refine r_icmp_ne hB (tgt := 47) (by decide +kernel : decode cX12_buttonOf 25 = .ok (.if_icmp .ne 22, 3)) (by decide) hf (fun _ hf => ?_) (fun _ hf => ?_)
    · refine r_aload_n hB 0 rfl (by decide +kernel : decode cX12_buttonOf 28 = .ok (.aload_n 0, 1)) rfl ?_
      refine r_gR hB cf12 0 (by decide) (own := "PulseRemoteModel") rfl (Or.inl k_1115) (by decide +kernel) (by decide +kernel : decode cX12_buttonOf 29 = .ok (.getfield 7, 3)) hf (fun x29 hf => ?_)
      refine r_bipush hB (v := 59) (by decide +kernel : decode cX12_buttonOf 32 = .ok (.bipush 59, 2)) (by decide +kernel) ?_
      refine r_iconst hB (v := 2) (by decide +kernel : decode cX12_buttonOf 34 = .ok (.iconst 2, 1)) (by decide +kernel) ?_
      refine r_iload_n hB 3 rfl (by decide +kernel : decode cX12_buttonOf 35 = .ok (.iload_n 3, 1)) rfl ?_
      refine r_imul hB (by decide +kernel : decode cX12_buttonOf 36 = .ok (.imul, 1)) ?_
      refine r_iadd hB (by decide +kernel : decode cX12_buttonOf 37 = .ok (.iadd, 1)) ?_
      refine r_iconst hB (v := 1) (by decide +kernel : decode cX12_buttonOf 38 = .ok (.iconst 1, 1)) (by decide +kernel) ?_
      refine r_iadd hB (by decide +kernel : decode cX12_buttonOf 39 = .ok (.iadd, 1)) ?_
      refine r_iald hB (by decide +kernel : decode cX12_buttonOf 40 = .ok (.iaload, 1)) hf (fun x40 hf => ?_)
      refine r_iload_n hB 2 rfl (by decide +kernel : decode cX12_buttonOf 41 = .ok (.iload_n 2, 1)) rfl ?_
      refine r_icmp_ne hB (tgt := 47) (by decide +kernel : decode cX12_buttonOf 42 = .ok (.if_icmp .ne 5, 3)) (by decide) hf (fun _ hf => ?_) (fun _ hf => ?_)
      · obtain ⟨_, hx0, rfl⟩ := xr_inv hf
        exact WW.sub [3] rfl (t_X12_buttonOf_45 hB hx0 hk)
      · exact WW.sub [0, 1, 2, 3] rfl (t_X12_buttonOf_47 hB hf hk)
    · exact WW.sub [0, 1, 2, 3] rfl (t_X12_buttonOf_47 hB hf hk)
set_option maxHeartbeats 4000000 in
set_option maxRecDepth 100000 in
theorem t_X12_buttonOf_2 {X : BX} {D : va_G} {cy : Nat → ClassId} {b : Nat} {r : Option Value} {μ' : MS} (hB : BB X D cy b yX12_buttonOf cX12_buttonOf 4 (some .int) rmX12_buttonOf) {l0 : Nat} {l1 : Int32} {l2 : Int32} {l3 : Int32} {μ : MS} {z : (Int32 × MS)} (hf : f_X12_buttonOf_2 l0 l1 l2 l3 μ = some z) (hk : (fun z : Int32 × MS => r = some (.int z.1) ∧ μ' = z.2) z) : WW X D cy b r μ' 4 0 0 2 [(0, .ref (b + l0)), (1, .int l1), (2, .int l2), (3, .int l3)] [] μ :=
  lp_ind (P := fun s : Nat × Int32 × Int32 × Int32 × MS => WW X D cy b r μ' 4 0 0 2 [(0, .ref (b + s.1)), (1, .int s.2.1), (2, .int s.2.2.1), (3, .int s.2.2.2.1)] [] s.2.2.2.2) (Q := (fun z : Int32 × MS => r = some (.int z.1) ∧ μ' = z.2)) (fun s z hz hk => t_X12_buttonOf_2_b hB hz hk) (l0, l1, l2, l3, μ) z hf hk
set_option maxHeartbeats 4000000 in
set_option maxRecDepth 100000 in
theorem t_X12_buttonOf_0 {X : BX} {D : va_G} {cy : Nat → ClassId} {b : Nat} {r : Option Value} {μ' : MS} (hB : BB X D cy b yX12_buttonOf cX12_buttonOf 4 (some .int) rmX12_buttonOf) {l0 : Nat} {l1 : Int32} {l2 : Int32} {μ : MS} {z : (Int32 × MS)} (hf : f_X12_buttonOf l0 l1 l2 μ = some z) (hk : (fun z : Int32 × MS => r = some (.int z.1) ∧ μ' = z.2) z) : WW X D cy b r μ' 4 0 0 0 [(0, .ref (b + l0)), (1, .int l1), (2, .int l2)] [] μ := by
  unfold f_X12_buttonOf at hf
  refine r_iconst hB (v := 0) (by decide +kernel : decode cX12_buttonOf 0 = .ok (.iconst 0, 1)) (by decide +kernel) ?_
  refine r_istore_n hB (by decide +kernel : decode cX12_buttonOf 1 = .ok (.istore_n 3, 1)) rfl (by decide) rfl ?_
  refine ww_lv (lv' := [(3, .int 0), (0, .ref (b + l0)), (1, .int l1), (2, .int l2)]) rfl ?_
  exact WW.sub [1, 2, 3, 0] rfl (t_X12_buttonOf_2 hB hf hk)
theorem m_X12_buttonOf (l : Launch) (D : va_G) (cy : Nat → ClassId) (b : Nat) {l0 : Nat} {l1 : Int32} {l2 : Int32} {μ : MS} {z : Int32 × MS} (hf : f_X12_buttonOf l0 l1 l2 μ = some z) : Met l yX12_buttonOf (.code yX12_buttonOf cX12_buttonOf 4 (some .int) :: GW) rmX12_buttonOf (Pw D cy b [.ref (b + l0), .int l1, .int l2] μ) (Qw D cy b (some (.int z.1)) (z.2)) rmX12_buttonOf.cells rmX12_buttonOf.slots (fun q => b ≤ q) :=
  met_of (by decide) (Nat.le_of_ble_eq_true rfl) (fun X hB _ => (t_X12_buttonOf_0 hB hf ⟨rfl, rfl⟩))
-- PulseRemoteModel.addsButton(II)V
set_option maxHeartbeats 4000000 in
set_option maxRecDepth 100000 in
theorem t_X12_addsButton_0 {X : BX} {D : va_G} {cy : Nat → ClassId} {b : Nat} {r : Option Value} {μ' : MS} (hB : BB X D cy b yX12_addsButton cX12_addsButton 3 none rmX12_addsButton) {l0 : Nat} {l1 : Int32} {l2 : Int32} {μ : MS} {z : MS} (hf : f_X12_addsButton l0 l1 l2 μ = some z) (hk : (fun z : MS => r = none ∧ μ' = z) z) : WW X D cy b r μ' 3 0 0 0 [(0, .ref (b + l0)), (1, .int l1), (2, .int l2)] [] μ := by
  unfold f_X12_addsButton at hf
  refine r_aload_n hB 0 rfl (by decide +kernel : decode cX12_addsButton 0 = .ok (.aload_n 0, 1)) rfl ?_
  refine r_gR hB cf12 0 (by decide) (own := "PulseRemoteModel") rfl (Or.inl k_1115) (by decide +kernel) (by decide +kernel : decode cX12_addsButton 1 = .ok (.getfield 7, 3)) hf (fun x1 hf => ?_)
  refine r_bipush hB (v := 59) (by decide +kernel : decode cX12_addsButton 4 = .ok (.bipush 59, 2)) (by decide +kernel) ?_
  refine r_iconst hB (v := 2) (by decide +kernel : decode cX12_addsButton 6 = .ok (.iconst 2, 1)) (by decide +kernel) ?_
  refine r_aload_n hB 0 rfl (by decide +kernel : decode cX12_addsButton 7 = .ok (.aload_n 0, 1)) rfl ?_
  refine r_gR hB cf12 0 (by decide) (own := "PulseRemoteModel") rfl (Or.inl k_1115) (by decide +kernel) (by decide +kernel : decode cX12_addsButton 8 = .ok (.getfield 7, 3)) hf (fun x8 hf => ?_)
  refine r_bipush hB (v := 58) (by decide +kernel : decode cX12_addsButton 11 = .ok (.bipush 58, 2)) (by decide +kernel) ?_
  refine r_iald hB (by decide +kernel : decode cX12_addsButton 13 = .ok (.iaload, 1)) hf (fun x13 hf => ?_)
  refine r_imul hB (by decide +kernel : decode cX12_addsButton 14 = .ok (.imul, 1)) ?_
  refine r_iadd hB (by decide +kernel : decode cX12_addsButton 15 = .ok (.iadd, 1)) ?_
  refine r_iload_n hB 1 rfl (by decide +kernel : decode cX12_addsButton 16 = .ok (.iload_n 1, 1)) rfl ?_
  refine r_iast hB (by decide +kernel : decode cX12_addsButton 17 = .ok (.iastore, 1)) hf (fun m17 hf => ?_)
  refine r_aload_n hB 0 rfl (by decide +kernel : decode cX12_addsButton 18 = .ok (.aload_n 0, 1)) rfl ?_
  refine r_gR hB cf12 0 (by decide) (own := "PulseRemoteModel") rfl (Or.inl k_1115) (by decide +kernel) (by decide +kernel : decode cX12_addsButton 19 = .ok (.getfield 7, 3)) hf (fun x19 hf => ?_)
  refine r_bipush hB (v := 59) (by decide +kernel : decode cX12_addsButton 22 = .ok (.bipush 59, 2)) (by decide +kernel) ?_
  refine r_iconst hB (v := 2) (by decide +kernel : decode cX12_addsButton 24 = .ok (.iconst 2, 1)) (by decide +kernel) ?_
  refine r_aload_n hB 0 rfl (by decide +kernel : decode cX12_addsButton 25 = .ok (.aload_n 0, 1)) rfl ?_
  refine r_gR hB cf12 0 (by decide) (own := "PulseRemoteModel") rfl (Or.inl k_1115) (by decide +kernel) (by decide +kernel : decode cX12_addsButton 26 = .ok (.getfield 7, 3)) hf (fun x26 hf => ?_)
  refine r_bipush hB (v := 58) (by decide +kernel : decode cX12_addsButton 29 = .ok (.bipush 58, 2)) (by decide +kernel) ?_
  refine r_iald hB (by decide +kernel : decode cX12_addsButton 31 = .ok (.iaload, 1)) hf (fun x31 hf => ?_)
  refine r_imul hB (by decide +kernel : decode cX12_addsButton 32 = .ok (.imul, 1)) ?_
  refine r_iadd hB (by decide +kernel : decode cX12_addsButton 33 = .ok (.iadd, 1)) ?_
  refine r_iconst hB (v := 1) (by decide +kernel : decode cX12_addsButton 34 = .ok (.iconst 1, 1)) (by decide +kernel) ?_
  refine r_iadd hB (by decide +kernel : decode cX12_addsButton 35 = .ok (.iadd, 1)) ?_
  refine r_iload_n hB 2 rfl (by decide +kernel : decode cX12_addsButton 36 = .ok (.iload_n 2, 1)) rfl ?_
  refine r_iast hB (by decide +kernel : decode cX12_addsButton 37 = .ok (.iastore, 1)) hf (fun m37 hf => ?_)
  refine r_aload_n hB 0 rfl (by decide +kernel : decode cX12_addsButton 38 = .ok (.aload_n 0, 1)) rfl ?_
  refine r_gR hB cf12 0 (by decide) (own := "PulseRemoteModel") rfl (Or.inl k_1115) (by decide +kernel) (by decide +kernel : decode cX12_addsButton 39 = .ok (.getfield 7, 3)) hf (fun x39 hf => ?_)
  refine r_bipush hB (v := 58) (by decide +kernel : decode cX12_addsButton 42 = .ok (.bipush 58, 2)) (by decide +kernel) ?_
  refine r_dup2 hB (by decide +kernel : decode cX12_addsButton 44 = .ok (.dup2, 1)) rfl rfl ?_
  refine r_iald hB (by decide +kernel : decode cX12_addsButton 45 = .ok (.iaload, 1)) hf (fun x45 hf => ?_)
  refine r_iconst hB (v := 1) (by decide +kernel : decode cX12_addsButton 46 = .ok (.iconst 1, 1)) (by decide +kernel) ?_
  refine r_iadd hB (by decide +kernel : decode cX12_addsButton 47 = .ok (.iadd, 1)) ?_
  refine r_iast hB (by decide +kernel : decode cX12_addsButton 48 = .ok (.iastore, 1)) hf (fun m48 hf => ?_)
  obtain rfl := Option.some.inj hf
  obtain ⟨rfl, rfl⟩ := hk
  exact r_vret hB (by decide +kernel : decode cX12_addsButton 49 = .ok (.return_, 1))
theorem m_X12_addsButton (l : Launch) (D : va_G) (cy : Nat → ClassId) (b : Nat) {l0 : Nat} {l1 : Int32} {l2 : Int32} {μ : MS} {z : MS} (hf : f_X12_addsButton l0 l1 l2 μ = some z) : Met l yX12_addsButton (.code yX12_addsButton cX12_addsButton 3 none :: GW) rmX12_addsButton (Pw D cy b [.ref (b + l0), .int l1, .int l2] μ) (Qw D cy b (none) (z)) rmX12_addsButton.cells rmX12_addsButton.slots (fun q => b ≤ q) :=
  met_of (by decide) (Nat.le_of_ble_eq_true rfl) (fun X hB _ => (t_X12_addsButton_0 hB hf ⟨rfl, rfl⟩))
-- PulseRemoteModel.addButton(II)I
set_option maxHeartbeats 4000000 in
set_option maxRecDepth 100000 in
theorem t_X12_addButton_0 {X : BX} {D : va_G} {cy : Nat → ClassId} {b : Nat} {r : Option Value} {μ' : MS} (hB : BB X D cy b yX12_addButton cX12_addButton 3 (some .int) rmX12_addButton) {l0 : Nat} {l1 : Int32} {l2 : Int32} {μ : MS} {z : (Int32 × MS)} (hf : f_X12_addButton l0 l1 l2 μ = some z) (hk : (fun z : Int32 × MS => r = some (.int z.1) ∧ μ' = z.2) z) : WW X D cy b r μ' 3 0 0 0 [(0, .ref (b + l0)), (1, .int l1), (2, .int l2)] [] μ := by
  unfold f_X12_addButton at hf
  refine r_aload_n hB 0 rfl (by decide +kernel : decode cX12_addButton 0 = .ok (.aload_n 0, 1)) rfl ?_
  refine r_iload_n hB 1 rfl (by decide +kernel : decode cX12_addButton 1 = .ok (.iload_n 1, 1)) rfl ?_
  refine r_cVi hB [.int l1] [] cf12 (own := "PulseRemoteModel") rfl cmX12_isProtocol imX12_isProtocol (Or.inl k_1255) (by decide) rfl rfl rfl (Nat.le_of_ble_eq_true rfl) (by decide +kernel : decode cX12_addButton 2 = .ok (.invokevirtual 91, 3)) (fun z hz => m_X12_isProtocol _ _ _ _ hz) rfl hf (fun z2 hf => ?_)
  refine r_if_eq hB (tgt := 17) (by decide +kernel : decode cX12_addButton 5 = .ok (.ifCond .eq 12, 3)) (by decide) hf (fun _ hf => ?_) (fun _ hf => ?_)
  · refine r_iconst hB (v := (-1)) (by decide +kernel : decode cX12_addButton 17 = .ok (.iconst (-1), 1)) (by decide +kernel) ?_
    obtain rfl := Option.some.inj hf
    obtain ⟨rfl, rfl⟩ := hk
    exact r_iret hB (by decide +kernel : decode cX12_addButton 18 = .ok (.ireturn, 1))
  · refine r_aload_n hB 0 rfl (by decide +kernel : decode cX12_addButton 8 = .ok (.aload_n 0, 1)) rfl ?_
    refine r_iload_n hB 1 rfl (by decide +kernel : decode cX12_addButton 9 = .ok (.iload_n 1, 1)) rfl ?_
    refine r_iload_n hB 2 rfl (by decide +kernel : decode cX12_addButton 10 = .ok (.iload_n 2, 1)) rfl ?_
    refine r_cVi hB [.int l1, .int l2] [] cf12 (own := "PulseRemoteModel") rfl cmX12_isCode imX12_isCode (Or.inl k_1277) (by decide) rfl rfl rfl (Nat.le_of_ble_eq_true rfl) (by decide +kernel : decode cX12_addButton 11 = .ok (.invokevirtual 101, 3)) (fun z hz => m_X12_isCode _ _ _ _ hz) rfl hf (fun z11 hf => ?_)
    refine r_if_ne hB (tgt := 19) (by decide +kernel : decode cX12_addButton 14 = .ok (.ifCond .ne 5, 3)) (by decide) hf (fun _ hf => ?_) (fun _ hf => ?_)
    · refine r_iconst hB (v := (-1)) (by decide +kernel : decode cX12_addButton 17 = .ok (.iconst (-1), 1)) (by decide +kernel) ?_
      obtain rfl := Option.some.inj hf
      obtain ⟨rfl, rfl⟩ := hk
      exact r_iret hB (by decide +kernel : decode cX12_addButton 18 = .ok (.ireturn, 1))
    · refine r_aload_n hB 0 rfl (by decide +kernel : decode cX12_addButton 19 = .ok (.aload_n 0, 1)) rfl ?_
      refine r_iload_n hB 1 rfl (by decide +kernel : decode cX12_addButton 20 = .ok (.iload_n 1, 1)) rfl ?_
      refine r_aload_n hB 0 rfl (by decide +kernel : decode cX12_addButton 21 = .ok (.aload_n 0, 1)) rfl ?_
      refine r_iload_n hB 1 rfl (by decide +kernel : decode cX12_addButton 22 = .ok (.iload_n 1, 1)) rfl ?_
      refine r_iload_n hB 2 rfl (by decide +kernel : decode cX12_addButton 23 = .ok (.iload_n 2, 1)) rfl ?_
      refine r_cVi hB [.int l1, .int l2] [.int l1, .ref (b + l0)] cf12 (own := "PulseRemoteModel") rfl cmX12_identity imX12_identity (Or.inl k_1281) (by decide) rfl rfl rfl (Nat.le_of_ble_eq_true rfl) (by decide +kernel : decode cX12_addButton 24 = .ok (.invokevirtual 105, 3)) (fun z hz => m_X12_identity _ _ _ _ hz) rfl hf (fun z24 hf => ?_)
      refine r_cVi hB [.int l1, .int z24.1] [] cf12 (own := "PulseRemoteModel") rfl cmX12_buttonOf imX12_buttonOf (Or.inl k_1285) (by decide) rfl rfl rfl (Nat.le_of_ble_eq_true rfl) (by decide +kernel : decode cX12_addButton 27 = .ok (.invokevirtual 109, 3)) (fun z hz => m_X12_buttonOf _ _ _ _ hz) rfl hf (fun z27 hf => ?_)
      refine r_bipush hB (v := (-9)) (by decide +kernel : decode cX12_addButton 30 = .ok (.bipush (-9), 2)) (by decide +kernel) ?_
      refine r_icmp_eq hB (tgt := 38) (by decide +kernel : decode cX12_addButton 32 = .ok (.if_icmp .eq 6, 3)) (by decide) hf (fun _ hf => ?_) (fun _ hf => ?_)
      · refine r_aload_n hB 0 rfl (by decide +kernel : decode cX12_addButton 38 = .ok (.aload_n 0, 1)) rfl ?_
        refine r_gR hB cf12 0 (by decide) (own := "PulseRemoteModel") rfl (Or.inl k_1115) (by decide +kernel) (by decide +kernel : decode cX12_addButton 39 = .ok (.getfield 7, 3)) hf (fun x39 hf => ?_)
        refine r_bipush hB (v := 58) (by decide +kernel : decode cX12_addButton 42 = .ok (.bipush 58, 2)) (by decide +kernel) ?_
        refine r_iald hB (by decide +kernel : decode cX12_addButton 44 = .ok (.iaload, 1)) hf (fun x44 hf => ?_)
        refine r_bipush hB (v := 12) (by decide +kernel : decode cX12_addButton 45 = .ok (.bipush 12, 2)) (by decide +kernel) ?_
        refine r_icmp_ne hB (tgt := 53) (by decide +kernel : decode cX12_addButton 47 = .ok (.if_icmp .ne 6, 3)) (by decide) hf (fun _ hf => ?_) (fun _ hf => ?_)
        · refine r_bipush hB (v := (-3)) (by decide +kernel : decode cX12_addButton 50 = .ok (.bipush (-3), 2)) (by decide +kernel) ?_
          obtain rfl := Option.some.inj hf
          obtain ⟨rfl, rfl⟩ := hk
          exact r_iret hB (by decide +kernel : decode cX12_addButton 52 = .ok (.ireturn, 1))
        · refine r_aload_n hB 0 rfl (by decide +kernel : decode cX12_addButton 53 = .ok (.aload_n 0, 1)) rfl ?_
          refine r_cVv hB [] [] cf12 (own := "PulseRemoteModel") rfl cmX12_note imX12_note (Or.inl k_1236) (by decide) rfl rfl rfl (Nat.le_of_ble_eq_true rfl) (by decide +kernel : decode cX12_addButton 54 = .ok (.invokevirtual 80, 3)) (fun z hz => m_X12_note _ _ _ _ hz) rfl hf (fun z54 hf => ?_)
          refine r_aload_n hB 0 rfl (by decide +kernel : decode cX12_addButton 57 = .ok (.aload_n 0, 1)) rfl ?_
          refine r_iload_n hB 1 rfl (by decide +kernel : decode cX12_addButton 58 = .ok (.iload_n 1, 1)) rfl ?_
          refine r_aload_n hB 0 rfl (by decide +kernel : decode cX12_addButton 59 = .ok (.aload_n 0, 1)) rfl ?_
          refine r_iload_n hB 1 rfl (by decide +kernel : decode cX12_addButton 60 = .ok (.iload_n 1, 1)) rfl ?_
          refine r_iload_n hB 2 rfl (by decide +kernel : decode cX12_addButton 61 = .ok (.iload_n 2, 1)) rfl ?_
          refine r_cVi hB [.int l1, .int l2] [.int l1, .ref (b + l0)] cf12 (own := "PulseRemoteModel") rfl cmX12_identity imX12_identity (Or.inl k_1281) (by decide) rfl rfl rfl (Nat.le_of_ble_eq_true rfl) (by decide +kernel : decode cX12_addButton 62 = .ok (.invokevirtual 105, 3)) (fun z hz => m_X12_identity _ _ _ _ hz) rfl hf (fun z62 hf => ?_)
          refine r_cVv hB [.int l1, .int z62.1] [] cf12 (own := "PulseRemoteModel") rfl cmX12_addsButton imX12_addsButton (Or.inl k_1289) (by decide) rfl rfl rfl (Nat.le_of_ble_eq_true rfl) (by decide +kernel : decode cX12_addButton 65 = .ok (.invokevirtual 112, 3)) (fun z hz => m_X12_addsButton _ _ _ _ hz) rfl hf (fun z65 hf => ?_)
          refine r_aload_n hB 0 rfl (by decide +kernel : decode cX12_addButton 68 = .ok (.aload_n 0, 1)) rfl ?_
          refine r_gR hB cf12 0 (by decide) (own := "PulseRemoteModel") rfl (Or.inl k_1115) (by decide +kernel) (by decide +kernel : decode cX12_addButton 69 = .ok (.getfield 7, 3)) hf (fun x69 hf => ?_)
          refine r_bipush hB (v := 58) (by decide +kernel : decode cX12_addButton 72 = .ok (.bipush 58, 2)) (by decide +kernel) ?_
          refine r_iald hB (by decide +kernel : decode cX12_addButton 74 = .ok (.iaload, 1)) hf (fun x74 hf => ?_)
          refine r_iconst hB (v := 1) (by decide +kernel : decode cX12_addButton 75 = .ok (.iconst 1, 1)) (by decide +kernel) ?_
          refine r_isub hB (by decide +kernel : decode cX12_addButton 76 = .ok (.isub, 1)) ?_
          obtain rfl := Option.some.inj hf
          obtain ⟨rfl, rfl⟩ := hk
          exact r_iret hB (by decide +kernel : decode cX12_addButton 77 = .ok (.ireturn, 1))
      · refine r_bipush hB (v := (-2)) (by decide +kernel : decode cX12_addButton 35 = .ok (.bipush (-2), 2)) (by decide +kernel) ?_
        obtain rfl := Option.some.inj hf
        obtain ⟨rfl, rfl⟩ := hk
        exact r_iret hB (by decide +kernel : decode cX12_addButton 37 = .ok (.ireturn, 1))
theorem m_X12_addButton (l : Launch) (D : va_G) (cy : Nat → ClassId) (b : Nat) {l0 : Nat} {l1 : Int32} {l2 : Int32} {μ : MS} {z : Int32 × MS} (hf : f_X12_addButton l0 l1 l2 μ = some z) : Met l yX12_addButton (.code yX12_addButton cX12_addButton 3 (some .int) :: GW) rmX12_addButton (Pw D cy b [.ref (b + l0), .int l1, .int l2] μ) (Qw D cy b (some (.int z.1)) (z.2)) rmX12_addButton.cells rmX12_addButton.slots (fun q => b ≤ q) :=
  met_of (by decide) (Nat.le_of_ble_eq_true rfl) (fun X hB _ => (t_X12_addButton_0 hB hf ⟨rfl, rfl⟩))
-- PulseRemoteModel.button(II)I
set_option maxHeartbeats 4000000 in
set_option maxRecDepth 100000 in
theorem t_X12_button_0 {X : BX} {D : va_G} {cy : Nat → ClassId} {b : Nat} {r : Option Value} {μ' : MS} (hB : BB X D cy b yX12_button cX12_button 3 (some .int) rmX12_button) {l0 : Nat} {l1 : Int32} {l2 : Int32} {μ : MS} {z : (Int32 × MS)} (hf : f_X12_button l0 l1 l2 μ = some z) (hk : (fun z : Int32 × MS => r = some (.int z.1) ∧ μ' = z.2) z) : WW X D cy b r μ' 3 0 0 0 [(0, .ref (b + l0)), (1, .int l1), (2, .int l2)] [] μ := by
  unfold f_X12_button at hf
  refine r_iload_n hB 1 rfl (by decide +kernel : decode cX12_button 0 = .ok (.iload_n 1, 1)) rfl ?_
  refine r_iconst hB (v := 0) (by decide +kernel : decode cX12_button 1 = .ok (.iconst 0, 1)) (by decide +kernel) ?_
  refine r_aload_n hB 0 rfl (by decide +kernel : decode cX12_button 2 = .ok (.aload_n 0, 1)) rfl ?_
  refine r_gR hB cf12 0 (by decide) (own := "PulseRemoteModel") rfl (Or.inl k_1115) (by decide +kernel) (by decide +kernel : decode cX12_button 3 = .ok (.getfield 7, 3)) hf (fun x3 hf => ?_)
  refine r_bipush hB (v := 58) (by decide +kernel : decode cX12_button 6 = .ok (.bipush 58, 2)) (by decide +kernel) ?_
  refine r_iald hB (by decide +kernel : decode cX12_button 8 = .ok (.iaload, 1)) hf (fun x8 hf => ?_)
  refine r_iconst hB (v := 1) (by decide +kernel : decode cX12_button 9 = .ok (.iconst 1, 1)) (by decide +kernel) ?_
  refine r_isub hB (by decide +kernel : decode cX12_button 10 = .ok (.isub, 1)) ?_
  refine r_cSi hB [.int l1, .int 0, .int (x8 - 1)] [] (own := "PulseRemoteModel") rfl cmX12_in smX12_in (Or.inl ⟨rfl, k_1233⟩) (by decide) rfl rfl rfl (Nat.le_of_ble_eq_true rfl) (by decide +kernel : decode cX12_button 11 = .ok (.invokestatic 68, 3)) (fun z hz => m_X12_in _ _ _ _ hz) rfl hf (fun z11 hf => ?_)
  refine r_if_eq hB (tgt := 42) (by decide +kernel : decode cX12_button 14 = .ok (.ifCond .eq 28, 3)) (by decide) hf (fun _ hf => ?_) (fun _ hf => ?_)
  · refine r_iconst hB (v := (-1)) (by decide +kernel : decode cX12_button 42 = .ok (.iconst (-1), 1)) (by decide +kernel) ?_
    obtain rfl := Option.some.inj hf
    obtain ⟨rfl, rfl⟩ := hk
    exact r_iret hB (by decide +kernel : decode cX12_button 43 = .ok (.ireturn, 1))
  · refine r_iload_n hB 2 rfl (by decide +kernel : decode cX12_button 17 = .ok (.iload_n 2, 1)) rfl ?_
    refine r_iconst hB (v := 0) (by decide +kernel : decode cX12_button 18 = .ok (.iconst 0, 1)) (by decide +kernel) ?_
    refine r_iconst hB (v := 1) (by decide +kernel : decode cX12_button 19 = .ok (.iconst 1, 1)) (by decide +kernel) ?_
    refine r_cSi hB [.int l2, .int 0, .int 1] [] (own := "PulseRemoteModel") rfl cmX12_in smX12_in (Or.inl ⟨rfl, k_1233⟩) (by decide) rfl rfl rfl (Nat.le_of_ble_eq_true rfl) (by decide +kernel : decode cX12_button 20 = .ok (.invokestatic 68, 3)) (fun z hz => m_X12_in _ _ _ _ hz) rfl hf (fun z20 hf => ?_)
    refine r_if_eq hB (tgt := 42) (by decide +kernel : decode cX12_button 23 = .ok (.ifCond .eq 19, 3)) (by decide) hf (fun _ hf => ?_) (fun _ hf => ?_)
    · refine r_iconst hB (v := (-1)) (by decide +kernel : decode cX12_button 42 = .ok (.iconst (-1), 1)) (by decide +kernel) ?_
      obtain rfl := Option.some.inj hf
      obtain ⟨rfl, rfl⟩ := hk
      exact r_iret hB (by decide +kernel : decode cX12_button 43 = .ok (.ireturn, 1))
    · refine r_aload_n hB 0 rfl (by decide +kernel : decode cX12_button 26 = .ok (.aload_n 0, 1)) rfl ?_
      refine r_gR hB cf12 0 (by decide) (own := "PulseRemoteModel") rfl (Or.inl k_1115) (by decide +kernel) (by decide +kernel : decode cX12_button 27 = .ok (.getfield 7, 3)) hf (fun x27 hf => ?_)
      refine r_bipush hB (v := 59) (by decide +kernel : decode cX12_button 30 = .ok (.bipush 59, 2)) (by decide +kernel) ?_
      refine r_iconst hB (v := 2) (by decide +kernel : decode cX12_button 32 = .ok (.iconst 2, 1)) (by decide +kernel) ?_
      refine r_iload_n hB 1 rfl (by decide +kernel : decode cX12_button 33 = .ok (.iload_n 1, 1)) rfl ?_
      refine r_imul hB (by decide +kernel : decode cX12_button 34 = .ok (.imul, 1)) ?_
      refine r_iadd hB (by decide +kernel : decode cX12_button 35 = .ok (.iadd, 1)) ?_
      refine r_iload_n hB 2 rfl (by decide +kernel : decode cX12_button 36 = .ok (.iload_n 2, 1)) rfl ?_
      refine r_iadd hB (by decide +kernel : decode cX12_button 37 = .ok (.iadd, 1)) ?_
      refine r_iald hB (by decide +kernel : decode cX12_button 38 = .ok (.iaload, 1)) hf (fun x38 hf => ?_)
      refine r_goto hB (tgt := 43) (by decide +kernel : decode cX12_button 39 = .ok (.goto 4, 3)) (by decide) ?_
      obtain rfl := Option.some.inj hf
      obtain ⟨rfl, rfl⟩ := hk
      exact r_iret hB (by decide +kernel : decode cX12_button 43 = .ok (.ireturn, 1))
theorem m_X12_button (l : Launch) (D : va_G) (cy : Nat → ClassId) (b : Nat) {l0 : Nat} {l1 : Int32} {l2 : Int32} {μ : MS} {z : Int32 × MS} (hf : f_X12_button l0 l1 l2 μ = some z) : Met l yX12_button (.code yX12_button cX12_button 3 (some .int) :: GW) rmX12_button (Pw D cy b [.ref (b + l0), .int l1, .int l2] μ) (Qw D cy b (some (.int z.1)) (z.2)) rmX12_button.cells rmX12_button.slots (fun q => b ≤ q) :=
  met_of (by decide) (Nat.le_of_ble_eq_true rfl) (fun X hB _ => (t_X12_button_0 hB hf ⟨rfl, rfl⟩))
-- PulseRemoteModel.sets(IIZ)I
set_option maxHeartbeats 4000000 in
set_option maxRecDepth 100000 in
theorem t_X12_sets_0 {X : BX} {D : va_G} {cy : Nat → ClassId} {b : Nat} {r : Option Value} {μ' : MS} (hB : BB X D cy b yX12_sets cX12_sets 5 (some .int) rmX12_sets) {l0 : Nat} {l1 : Int32} {l2 : Int32} {l3 : Int32} {μ : MS} {z : (Int32 × MS)} (hf : f_X12_sets l0 l1 l2 l3 μ = some z) (hk : (fun z : Int32 × MS => r = some (.int z.1) ∧ μ' = z.2) z) : WW X D cy b r μ' 5 0 0 0 [(0, .ref (b + l0)), (1, .int l1), (2, .int l2), (3, .int l3)] [] μ := by
  unfold f_X12_sets at hf
  refine r_iload_n hB 3 rfl (by decide +kernel : decode cX12_sets 0 = .ok (.iload_n 3, 1)) rfl ?_
  refine r_if_ne hB (tgt := 6) (by decide +kernel : decode cX12_sets 1 = .ok (.ifCond .ne 5, 3)) (by decide) hf (fun _ hf => ?_) (fun _ hf => ?_)
  · refine r_iconst hB (v := (-1)) (by decide +kernel : decode cX12_sets 4 = .ok (.iconst (-1), 1)) (by decide +kernel) ?_
    obtain rfl := Option.some.inj hf
    obtain ⟨rfl, rfl⟩ := hk
    exact r_iret hB (by decide +kernel : decode cX12_sets 5 = .ok (.ireturn, 1))
  · refine r_aload_n hB 0 rfl (by decide +kernel : decode cX12_sets 6 = .ok (.aload_n 0, 1)) rfl ?_
    refine r_cVv hB [] [] cf12 (own := "PulseRemoteModel") rfl cmX12_note imX12_note (Or.inl k_1236) (by decide) rfl rfl rfl (Nat.le_of_ble_eq_true rfl) (by decide +kernel : decode cX12_sets 7 = .ok (.invokevirtual 80, 3)) (fun z hz => m_X12_note _ _ _ _ hz) rfl hf (fun z7 hf => ?_)
    refine r_aload_n hB 0 rfl (by decide +kernel : decode cX12_sets 10 = .ok (.aload_n 0, 1)) rfl ?_
    refine r_gR hB cf12 0 (by decide) (own := "PulseRemoteModel") rfl (Or.inl k_1115) (by decide +kernel) (by decide +kernel : decode cX12_sets 11 = .ok (.getfield 7, 3)) hf (fun x11 hf => ?_)
    refine r_iload_n hB 1 rfl (by decide +kernel : decode cX12_sets 14 = .ok (.iload_n 1, 1)) rfl ?_
    refine r_iald hB (by decide +kernel : decode cX12_sets 15 = .ok (.iaload, 1)) hf (fun x15 hf => ?_)
    refine r_istore hB (by decide +kernel : decode cX12_sets 16 = .ok (.istore 4, 2)) (by decide) rfl ?_
    refine ww_lv (lv' := [(4, .int x15), (0, .ref (b + l0)), (1, .int l1), (2, .int l2), (3, .int l3)]) rfl ?_
    refine r_aload_n hB 1 rfl (by decide +kernel : decode cX12_sets 18 = .ok (.aload_n 0, 1)) rfl ?_
    refine r_gR hB cf12 0 (by decide) (own := "PulseRemoteModel") rfl (Or.inl k_1115) (by decide +kernel) (by decide +kernel : decode cX12_sets 19 = .ok (.getfield 7, 3)) hf (fun x19 hf => ?_)
    refine r_iload_n hB 2 rfl (by decide +kernel : decode cX12_sets 22 = .ok (.iload_n 1, 1)) rfl ?_
    refine r_iload_n hB 3 rfl (by decide +kernel : decode cX12_sets 23 = .ok (.iload_n 2, 1)) rfl ?_
    refine r_iast hB (by decide +kernel : decode cX12_sets 24 = .ok (.iastore, 1)) hf (fun m24 hf => ?_)
    refine r_iload hB 0 rfl (by decide +kernel : decode cX12_sets 25 = .ok (.iload 4, 2)) ?_
    obtain rfl := Option.some.inj hf
    obtain ⟨rfl, rfl⟩ := hk
    exact r_iret hB (by decide +kernel : decode cX12_sets 27 = .ok (.ireturn, 1))
theorem m_X12_sets (l : Launch) (D : va_G) (cy : Nat → ClassId) (b : Nat) {l0 : Nat} {l1 : Int32} {l2 : Int32} {l3 : Int32} {μ : MS} {z : Int32 × MS} (hf : f_X12_sets l0 l1 l2 l3 μ = some z) : Met l yX12_sets (.code yX12_sets cX12_sets 5 (some .int) :: GW) rmX12_sets (Pw D cy b [.ref (b + l0), .int l1, .int l2, .int l3] μ) (Qw D cy b (some (.int z.1)) (z.2)) rmX12_sets.cells rmX12_sets.slots (fun q => b ≤ q) :=
  met_of (by decide) (Nat.le_of_ble_eq_true rfl) (fun X hB _ => (t_X12_sets_0 hB hf ⟨rfl, rfl⟩))
-- PulseRemoteModel.setGap(I)I
set_option maxHeartbeats 4000000 in
set_option maxRecDepth 100000 in
theorem t_X12_setGap_0 {X : BX} {D : va_G} {cy : Nat → ClassId} {b : Nat} {r : Option Value} {μ' : MS} (hB : BB X D cy b yX12_setGap cX12_setGap 2 (some .int) rmX12_setGap) {l0 : Nat} {l1 : Int32} {μ : MS} {z : (Int32 × MS)} (hf : f_X12_setGap l0 l1 μ = some z) (hk : (fun z : Int32 × MS => r = some (.int z.1) ∧ μ' = z.2) z) : WW X D cy b r μ' 2 0 0 0 [(0, .ref (b + l0)), (1, .int l1)] [] μ := by
  unfold f_X12_setGap at hf
  refine r_aload_n hB 0 rfl (by decide +kernel : decode cX12_setGap 0 = .ok (.aload_n 0, 1)) rfl ?_
  refine r_iconst hB (v := 0) (by decide +kernel : decode cX12_setGap 1 = .ok (.iconst 0, 1)) (by decide +kernel) ?_
  refine r_iload_n hB 1 rfl (by decide +kernel : decode cX12_setGap 2 = .ok (.iload_n 1, 1)) rfl ?_
  refine r_iload_n hB 1 rfl (by decide +kernel : decode cX12_setGap 3 = .ok (.iload_n 1, 1)) rfl ?_
  refine r_sipush hB (v := 1000) (by decide +kernel : decode cX12_setGap 4 = .ok (.sipush 1000, 3)) (by decide +kernel) ?_
  refine r_ldc hB (v := 60000) (own := "PulseRemoteModel") rfl k_1301 (by decide +kernel : decode cX12_setGap 7 = .ok (.ldc 116, 2)) ?_
  refine r_cSi hB [.int l1, .int 1000, .int 60000] [.int l1, .int 0, .ref (b + l0)] (own := "PulseRemoteModel") rfl cmX12_in smX12_in (Or.inl ⟨rfl, k_1233⟩) (by decide) rfl rfl rfl (Nat.le_of_ble_eq_true rfl) (by decide +kernel : decode cX12_setGap 9 = .ok (.invokestatic 68, 3)) (fun z hz => m_X12_in _ _ _ _ hz) rfl hf (fun z9 hf => ?_)
  refine r_cVi hB [.int 0, .int l1, .int z9.1] [] cf12 (own := "PulseRemoteModel") rfl cmX12_sets imX12_sets (Or.inl k_1302) (by decide) rfl rfl rfl (Nat.le_of_ble_eq_true rfl) (by decide +kernel : decode cX12_setGap 12 = .ok (.invokevirtual 117, 3)) (fun z hz => m_X12_sets _ _ _ _ hz) rfl hf (fun z12 hf => ?_)
  obtain rfl := Option.some.inj hf
  obtain ⟨rfl, rfl⟩ := hk
  exact r_iret hB (by decide +kernel : decode cX12_setGap 15 = .ok (.ireturn, 1))
theorem m_X12_setGap (l : Launch) (D : va_G) (cy : Nat → ClassId) (b : Nat) {l0 : Nat} {l1 : Int32} {μ : MS} {z : Int32 × MS} (hf : f_X12_setGap l0 l1 μ = some z) : Met l yX12_setGap (.code yX12_setGap cX12_setGap 2 (some .int) :: GW) rmX12_setGap (Pw D cy b [.ref (b + l0), .int l1] μ) (Qw D cy b (some (.int z.1)) (z.2)) rmX12_setGap.cells rmX12_setGap.slots (fun q => b ≤ q) :=
  met_of (by decide) (Nat.le_of_ble_eq_true rfl) (fun X hB _ => (t_X12_setGap_0 hB hf ⟨rfl, rfl⟩))
-- PulseRemoteModel.setHold(I)I
set_option maxHeartbeats 4000000 in
set_option maxRecDepth 100000 in
theorem t_X12_setHold_0 {X : BX} {D : va_G} {cy : Nat → ClassId} {b : Nat} {r : Option Value} {μ' : MS} (hB : BB X D cy b yX12_setHold cX12_setHold 2 (some .int) rmX12_setHold) {l0 : Nat} {l1 : Int32} {μ : MS} {z : (Int32 × MS)} (hf : f_X12_setHold l0 l1 μ = some z) (hk : (fun z : Int32 × MS => r = some (.int z.1) ∧ μ' = z.2) z) : WW X D cy b r μ' 2 0 0 0 [(0, .ref (b + l0)), (1, .int l1)] [] μ := by
  unfold f_X12_setHold at hf
  refine r_aload_n hB 0 rfl (by decide +kernel : decode cX12_setHold 0 = .ok (.aload_n 0, 1)) rfl ?_
  refine r_iconst hB (v := 1) (by decide +kernel : decode cX12_setHold 1 = .ok (.iconst 1, 1)) (by decide +kernel) ?_
  refine r_iload_n hB 1 rfl (by decide +kernel : decode cX12_setHold 2 = .ok (.iload_n 1, 1)) rfl ?_
  refine r_iload_n hB 1 rfl (by decide +kernel : decode cX12_setHold 3 = .ok (.iload_n 1, 1)) rfl ?_
  refine r_sipush hB (v := 1000) (by decide +kernel : decode cX12_setHold 4 = .ok (.sipush 1000, 3)) (by decide +kernel) ?_
  refine r_ldc hB (v := 60000) (own := "PulseRemoteModel") rfl k_1301 (by decide +kernel : decode cX12_setHold 7 = .ok (.ldc 116, 2)) ?_
  refine r_cSi hB [.int l1, .int 1000, .int 60000] [.int l1, .int 1, .ref (b + l0)] (own := "PulseRemoteModel") rfl cmX12_in smX12_in (Or.inl ⟨rfl, k_1233⟩) (by decide) rfl rfl rfl (Nat.le_of_ble_eq_true rfl) (by decide +kernel : decode cX12_setHold 9 = .ok (.invokestatic 68, 3)) (fun z hz => m_X12_in _ _ _ _ hz) rfl hf (fun z9 hf => ?_)
  refine r_cVi hB [.int 1, .int l1, .int z9.1] [] cf12 (own := "PulseRemoteModel") rfl cmX12_sets imX12_sets (Or.inl k_1302) (by decide) rfl rfl rfl (Nat.le_of_ble_eq_true rfl) (by decide +kernel : decode cX12_setHold 12 = .ok (.invokevirtual 117, 3)) (fun z hz => m_X12_sets _ _ _ _ hz) rfl hf (fun z12 hf => ?_)
  obtain rfl := Option.some.inj hf
  obtain ⟨rfl, rfl⟩ := hk
  exact r_iret hB (by decide +kernel : decode cX12_setHold 15 = .ok (.ireturn, 1))
theorem m_X12_setHold (l : Launch) (D : va_G) (cy : Nat → ClassId) (b : Nat) {l0 : Nat} {l1 : Int32} {μ : MS} {z : Int32 × MS} (hf : f_X12_setHold l0 l1 μ = some z) : Met l yX12_setHold (.code yX12_setHold cX12_setHold 2 (some .int) :: GW) rmX12_setHold (Pw D cy b [.ref (b + l0), .int l1] μ) (Qw D cy b (some (.int z.1)) (z.2)) rmX12_setHold.cells rmX12_setHold.slots (fun q => b ≤ q) :=
  met_of (by decide) (Nat.le_of_ble_eq_true rfl) (fun X hB _ => (t_X12_setHold_0 hB hf ⟨rfl, rfl⟩))
-- PulseRemoteModel.setTolerance(I)I
set_option maxHeartbeats 4000000 in
set_option maxRecDepth 100000 in
theorem t_X12_setTolerance_0 {X : BX} {D : va_G} {cy : Nat → ClassId} {b : Nat} {r : Option Value} {μ' : MS} (hB : BB X D cy b yX12_setTolerance cX12_setTolerance 2 (some .int) rmX12_setTolerance) {l0 : Nat} {l1 : Int32} {μ : MS} {z : (Int32 × MS)} (hf : f_X12_setTolerance l0 l1 μ = some z) (hk : (fun z : Int32 × MS => r = some (.int z.1) ∧ μ' = z.2) z) : WW X D cy b r μ' 2 0 0 0 [(0, .ref (b + l0)), (1, .int l1)] [] μ := by
  unfold f_X12_setTolerance at hf
  refine r_aload_n hB 0 rfl (by decide +kernel : decode cX12_setTolerance 0 = .ok (.aload_n 0, 1)) rfl ?_
  refine r_iconst hB (v := 2) (by decide +kernel : decode cX12_setTolerance 1 = .ok (.iconst 2, 1)) (by decide +kernel) ?_
  refine r_iload_n hB 1 rfl (by decide +kernel : decode cX12_setTolerance 2 = .ok (.iload_n 1, 1)) rfl ?_
  refine r_iload_n hB 1 rfl (by decide +kernel : decode cX12_setTolerance 3 = .ok (.iload_n 1, 1)) rfl ?_
  refine r_iconst hB (v := 0) (by decide +kernel : decode cX12_setTolerance 4 = .ok (.iconst 0, 1)) (by decide +kernel) ?_
  refine r_bipush hB (v := 40) (by decide +kernel : decode cX12_setTolerance 5 = .ok (.bipush 40, 2)) (by decide +kernel) ?_
  refine r_cSi hB [.int l1, .int 0, .int 40] [.int l1, .int 2, .ref (b + l0)] (own := "PulseRemoteModel") rfl cmX12_in smX12_in (Or.inl ⟨rfl, k_1233⟩) (by decide) rfl rfl rfl (Nat.le_of_ble_eq_true rfl) (by decide +kernel : decode cX12_setTolerance 7 = .ok (.invokestatic 68, 3)) (fun z hz => m_X12_in _ _ _ _ hz) rfl hf (fun z7 hf => ?_)
  refine r_cVi hB [.int 2, .int l1, .int z7.1] [] cf12 (own := "PulseRemoteModel") rfl cmX12_sets imX12_sets (Or.inl k_1302) (by decide) rfl rfl rfl (Nat.le_of_ble_eq_true rfl) (by decide +kernel : decode cX12_setTolerance 10 = .ok (.invokevirtual 117, 3)) (fun z hz => m_X12_sets _ _ _ _ hz) rfl hf (fun z10 hf => ?_)
  obtain rfl := Option.some.inj hf
  obtain ⟨rfl, rfl⟩ := hk
  exact r_iret hB (by decide +kernel : decode cX12_setTolerance 13 = .ok (.ireturn, 1))
theorem m_X12_setTolerance (l : Launch) (D : va_G) (cy : Nat → ClassId) (b : Nat) {l0 : Nat} {l1 : Int32} {μ : MS} {z : Int32 × MS} (hf : f_X12_setTolerance l0 l1 μ = some z) : Met l yX12_setTolerance (.code yX12_setTolerance cX12_setTolerance 2 (some .int) :: GW) rmX12_setTolerance (Pw D cy b [.ref (b + l0), .int l1] μ) (Qw D cy b (some (.int z.1)) (z.2)) rmX12_setTolerance.cells rmX12_setTolerance.slots (fun q => b ≤ q) :=
  met_of (by decide) (Nat.le_of_ble_eq_true rfl) (fun X hB _ => (t_X12_setTolerance_0 hB hf ⟨rfl, rfl⟩))
-- PulseRemoteModel.appendCharacter(I)I
set_option maxHeartbeats 4000000 in
set_option maxRecDepth 100000 in
theorem t_X12_appendCharacter_0 {X : BX} {D : va_G} {cy : Nat → ClassId} {b : Nat} {r : Option Value} {μ' : MS} (hB : BB X D cy b yX12_appendCharacter cX12_appendCharacter 2 (some .int) rmX12_appendCharacter) {l0 : Nat} {l1 : Int32} {μ : MS} {z : (Int32 × MS)} (hf : f_X12_appendCharacter l0 l1 μ = some z) (hk : (fun z : Int32 × MS => r = some (.int z.1) ∧ μ' = z.2) z) : WW X D cy b r μ' 2 0 0 0 [(0, .ref (b + l0)), (1, .int l1)] [] μ := by
  unfold f_X12_appendCharacter at hf
  refine r_iload_n hB 1 rfl (by decide +kernel : decode cX12_appendCharacter 0 = .ok (.iload_n 1, 1)) rfl ?_
  refine r_iconst hB (v := 0) (by decide +kernel : decode cX12_appendCharacter 1 = .ok (.iconst 0, 1)) (by decide +kernel) ?_
  refine r_sipush hB (v := 255) (by decide +kernel : decode cX12_appendCharacter 2 = .ok (.sipush 255, 3)) (by decide +kernel) ?_
  refine r_cSi hB [.int l1, .int 0, .int 255] [] (own := "PulseRemoteModel") rfl cmX12_in smX12_in (Or.inl ⟨rfl, k_1233⟩) (by decide) rfl rfl rfl (Nat.le_of_ble_eq_true rfl) (by decide +kernel : decode cX12_appendCharacter 5 = .ok (.invokestatic 68, 3)) (fun z hz => m_X12_in _ _ _ _ hz) rfl hf (fun z5 hf => ?_)
  refine r_if_ne hB (tgt := 13) (by decide +kernel : decode cX12_appendCharacter 8 = .ok (.ifCond .ne 5, 3)) (by decide) hf (fun _ hf => ?_) (fun _ hf => ?_)
  · refine r_iconst hB (v := (-1)) (by decide +kernel : decode cX12_appendCharacter 11 = .ok (.iconst (-1), 1)) (by decide +kernel) ?_
    obtain rfl := Option.some.inj hf
    obtain ⟨rfl, rfl⟩ := hk
    exact r_iret hB (by decide +kernel : decode cX12_appendCharacter 12 = .ok (.ireturn, 1))
  · refine r_aload_n hB 0 rfl (by decide +kernel : decode cX12_appendCharacter 13 = .ok (.aload_n 0, 1)) rfl ?_
    refine r_gI hB cf12 4 (by decide) (own := "PulseRemoteModel") rfl (Or.inl k_1119) (by decide +kernel) (by decide +kernel : decode cX12_appendCharacter 14 = .ok (.getfield 98, 3)) hf (fun x14 hf => ?_)
    refine r_sipush hB (v := 160) (by decide +kernel : decode cX12_appendCharacter 17 = .ok (.sipush 160, 3)) (by decide +kernel) ?_
    refine r_icmp_ne hB (tgt := 26) (by decide +kernel : decode cX12_appendCharacter 20 = .ok (.if_icmp .ne 6, 3)) (by decide) hf (fun _ hf => ?_) (fun _ hf => ?_)
    · refine r_bipush hB (v := (-3)) (by decide +kernel : decode cX12_appendCharacter 23 = .ok (.bipush (-3), 2)) (by decide +kernel) ?_
      obtain rfl := Option.some.inj hf
      obtain ⟨rfl, rfl⟩ := hk
      exact r_iret hB (by decide +kernel : decode cX12_appendCharacter 25 = .ok (.ireturn, 1))
    · refine r_aload_n hB 0 rfl (by decide +kernel : decode cX12_appendCharacter 26 = .ok (.aload_n 0, 1)) rfl ?_
      refine r_gR hB cf12 3 (by decide) (own := "PulseRemoteModel") rfl (Or.inl k_1118) (by decide +kernel) (by decide +kernel : decode cX12_appendCharacter 27 = .ok (.getfield 16, 3)) hf (fun x27 hf => ?_)
      refine r_aload_n hB 0 rfl (by decide +kernel : decode cX12_appendCharacter 30 = .ok (.aload_n 0, 1)) rfl ?_
      refine r_gI hB cf12 4 (by decide) (own := "PulseRemoteModel") rfl (Or.inl k_1119) (by decide +kernel) (by decide +kernel : decode cX12_appendCharacter 31 = .ok (.getfield 98, 3)) hf (fun x31 hf => ?_)
      refine r_iload_n hB 1 rfl (by decide +kernel : decode cX12_appendCharacter 34 = .ok (.iload_n 1, 1)) rfl ?_
      refine r_i2b hB (by decide +kernel : decode cX12_appendCharacter 35 = .ok (.i2b, 1)) ?_
      refine r_bast hB (by decide +kernel : decode cX12_appendCharacter 36 = .ok (.bastore, 1)) hf (fun m36 hf => ?_)
      refine r_aload_n hB 0 rfl (by decide +kernel : decode cX12_appendCharacter 37 = .ok (.aload_n 0, 1)) rfl ?_
      refine r_dup hB (by decide +kernel : decode cX12_appendCharacter 38 = .ok (.dup, 1)) rfl ?_
      refine r_gI hB cf12 4 (by decide) (own := "PulseRemoteModel") rfl (Or.inl k_1119) (by decide +kernel) (by decide +kernel : decode cX12_appendCharacter 39 = .ok (.getfield 98, 3)) hf (fun x39 hf => ?_)
      refine r_iconst hB (v := 1) (by decide +kernel : decode cX12_appendCharacter 42 = .ok (.iconst 1, 1)) (by decide +kernel) ?_
      refine r_iadd hB (by decide +kernel : decode cX12_appendCharacter 43 = .ok (.iadd, 1)) ?_
      refine r_pI hB cf12 4 (by decide) (own := "PulseRemoteModel") rfl (Or.inl k_1119) (Or.inl rfl) rfl (by decide +kernel : decode cX12_appendCharacter 44 = .ok (.putfield 98, 3)) hf (fun m44 hf => ?_)
      refine r_aload_n hB 0 rfl (by decide +kernel : decode cX12_appendCharacter 47 = .ok (.aload_n 0, 1)) rfl ?_
      refine r_gI hB cf12 4 (by decide) (own := "PulseRemoteModel") rfl (Or.inl k_1119) (by decide +kernel) (by decide +kernel : decode cX12_appendCharacter 48 = .ok (.getfield 98, 3)) hf (fun x48 hf => ?_)
      obtain rfl := Option.some.inj hf
      obtain ⟨rfl, rfl⟩ := hk
      exact r_iret hB (by decide +kernel : decode cX12_appendCharacter 51 = .ok (.ireturn, 1))
theorem m_X12_appendCharacter (l : Launch) (D : va_G) (cy : Nat → ClassId) (b : Nat) {l0 : Nat} {l1 : Int32} {μ : MS} {z : Int32 × MS} (hf : f_X12_appendCharacter l0 l1 μ = some z) : Met l yX12_appendCharacter (.code yX12_appendCharacter cX12_appendCharacter 2 (some .int) :: GW) rmX12_appendCharacter (Pw D cy b [.ref (b + l0), .int l1] μ) (Qw D cy b (some (.int z.1)) (z.2)) rmX12_appendCharacter.cells rmX12_appendCharacter.slots (fun q => b ≤ q) :=
  met_of (by decide) (Nat.le_of_ble_eq_true rfl) (fun X hB _ => (t_X12_appendCharacter_0 hB hf ⟨rfl, rfl⟩))
-- PulseRemoteModel.clearText()I
set_option maxHeartbeats 4000000 in
set_option maxRecDepth 100000 in
theorem t_X12_clearText_0 {X : BX} {D : va_G} {cy : Nat → ClassId} {b : Nat} {r : Option Value} {μ' : MS} (hB : BB X D cy b yX12_clearText cX12_clearText 2 (some .int) rmX12_clearText) {l0 : Nat} {μ : MS} {z : (Int32 × MS)} (hf : f_X12_clearText l0 μ = some z) (hk : (fun z : Int32 × MS => r = some (.int z.1) ∧ μ' = z.2) z) : WW X D cy b r μ' 2 0 0 0 [(0, .ref (b + l0))] [] μ := by
  unfold f_X12_clearText at hf
  refine r_aload_n hB 0 rfl (by decide +kernel : decode cX12_clearText 0 = .ok (.aload_n 0, 1)) rfl ?_
  refine r_gI hB cf12 4 (by decide) (own := "PulseRemoteModel") rfl (Or.inl k_1119) (by decide +kernel) (by decide +kernel : decode cX12_clearText 1 = .ok (.getfield 98, 3)) hf (fun x1 hf => ?_)
  refine r_istore_n hB (by decide +kernel : decode cX12_clearText 4 = .ok (.istore_n 1, 1)) rfl (by decide) rfl ?_
  refine ww_lv (lv' := [(1, .int x1), (0, .ref (b + l0))]) rfl ?_
  refine r_aload_n hB 1 rfl (by decide +kernel : decode cX12_clearText 5 = .ok (.aload_n 0, 1)) rfl ?_
  refine r_iconst hB (v := 0) (by decide +kernel : decode cX12_clearText 6 = .ok (.iconst 0, 1)) (by decide +kernel) ?_
  refine r_pI hB cf12 4 (by decide) (own := "PulseRemoteModel") rfl (Or.inl k_1119) (Or.inl rfl) rfl (by decide +kernel : decode cX12_clearText 7 = .ok (.putfield 98, 3)) hf (fun m7 hf => ?_)
  refine r_iload_n hB 0 rfl (by decide +kernel : decode cX12_clearText 10 = .ok (.iload_n 1, 1)) rfl ?_
  obtain rfl := Option.some.inj hf
  obtain ⟨rfl, rfl⟩ := hk
  exact r_iret hB (by decide +kernel : decode cX12_clearText 11 = .ok (.ireturn, 1))
theorem m_X12_clearText (l : Launch) (D : va_G) (cy : Nat → ClassId) (b : Nat) {l0 : Nat} {μ : MS} {z : Int32 × MS} (hf : f_X12_clearText l0 μ = some z) : Met l yX12_clearText (.code yX12_clearText cX12_clearText 2 (some .int) :: GW) rmX12_clearText (Pw D cy b [.ref (b + l0)] μ) (Qw D cy b (some (.int z.1)) (z.2)) rmX12_clearText.cells rmX12_clearText.slots (fun q => b ≤ q) :=
  met_of (by decide) (Nat.le_of_ble_eq_true rfl) (fun X hB _ => (t_X12_clearText_0 hB hf ⟨rfl, rfl⟩))
-- PulseRemoteModel.here()I
set_option maxHeartbeats 4000000 in
set_option maxRecDepth 100000 in
theorem t_X12_here_0 {X : BX} {D : va_G} {cy : Nat → ClassId} {b : Nat} {r : Option Value} {μ' : MS} (hB : BB X D cy b yX12_here cX12_here 1 (some .int) rmX12_here) {l0 : Nat} {μ : MS} {z : (Int32 × MS)} (hf : f_X12_here l0 μ = some z) (hk : (fun z : Int32 × MS => r = some (.int z.1) ∧ μ' = z.2) z) : WW X D cy b r μ' 1 0 0 0 [(0, .ref (b + l0))] [] μ := by
  unfold f_X12_here at hf
  refine r_aload_n hB 0 rfl (by decide +kernel : decode cX12_here 0 = .ok (.aload_n 0, 1)) rfl ?_
  refine r_gI hB cf12 5 (by decide) (own := "PulseRemoteModel") rfl (Or.inl k_1120) (by decide +kernel) (by decide +kernel : decode cX12_here 1 = .ok (.getfield 121, 3)) hf (fun x1 hf => ?_)
  refine r_aload_n hB 0 rfl (by decide +kernel : decode cX12_here 4 = .ok (.aload_n 0, 1)) rfl ?_
  refine r_gI hB cf12 4 (by decide) (own := "PulseRemoteModel") rfl (Or.inl k_1119) (by decide +kernel) (by decide +kernel : decode cX12_here 5 = .ok (.getfield 98, 3)) hf (fun x5 hf => ?_)
  refine r_icmp_ge hB (tgt := 27) (by decide +kernel : decode cX12_here 8 = .ok (.if_icmp .ge 19, 3)) (by decide) hf (fun _ hf => ?_) (fun _ hf => ?_)
  · refine r_iconst hB (v := (-1)) (by decide +kernel : decode cX12_here 27 = .ok (.iconst (-1), 1)) (by decide +kernel) ?_
    obtain rfl := Option.some.inj hf
    obtain ⟨rfl, rfl⟩ := hk
    exact r_iret hB (by decide +kernel : decode cX12_here 28 = .ok (.ireturn, 1))
  · refine r_aload_n hB 0 rfl (by decide +kernel : decode cX12_here 11 = .ok (.aload_n 0, 1)) rfl ?_
    refine r_gR hB cf12 3 (by decide) (own := "PulseRemoteModel") rfl (Or.inl k_1118) (by decide +kernel) (by decide +kernel : decode cX12_here 12 = .ok (.getfield 16, 3)) hf (fun x12 hf => ?_)
    refine r_aload_n hB 0 rfl (by decide +kernel : decode cX12_here 15 = .ok (.aload_n 0, 1)) rfl ?_
    refine r_gI hB cf12 5 (by decide) (own := "PulseRemoteModel") rfl (Or.inl k_1120) (by decide +kernel) (by decide +kernel : decode cX12_here 16 = .ok (.getfield 121, 3)) hf (fun x16 hf => ?_)
    refine r_bald hB (by decide +kernel : decode cX12_here 19 = .ok (.baload, 1)) hf (fun x19 hf => ?_)
    refine r_sipush hB (v := 255) (by decide +kernel : decode cX12_here 20 = .ok (.sipush 255, 3)) (by decide +kernel) ?_
    refine r_iand hB (by decide +kernel : decode cX12_here 23 = .ok (.iand, 1)) ?_
    refine r_goto hB (tgt := 28) (by decide +kernel : decode cX12_here 24 = .ok (.goto 4, 3)) (by decide) ?_
    obtain rfl := Option.some.inj hf
    obtain ⟨rfl, rfl⟩ := hk
    exact r_iret hB (by decide +kernel : decode cX12_here 28 = .ok (.ireturn, 1))
theorem m_X12_here (l : Launch) (D : va_G) (cy : Nat → ClassId) (b : Nat) {l0 : Nat} {μ : MS} {z : Int32 × MS} (hf : f_X12_here l0 μ = some z) : Met l yX12_here (.code yX12_here cX12_here 1 (some .int) :: GW) rmX12_here (Pw D cy b [.ref (b + l0)] μ) (Qw D cy b (some (.int z.1)) (z.2)) rmX12_here.cells rmX12_here.slots (fun q => b ≤ q) :=
  met_of (by decide) (Nat.le_of_ble_eq_true rfl) (fun X hB _ => (t_X12_here_0 hB hf ⟨rfl, rfl⟩))
-- PulseRemoteModel.readsToken()V
set_option maxHeartbeats 4000000 in
set_option maxRecDepth 100000 in
theorem t_X12_readsToken_309 {X : BX} {D : va_G} {cy : Nat → ClassId} {b : Nat} {r : Option Value} {μ' : MS} (hB : BB X D cy b yX12_readsToken cX12_readsToken 2 none rmX12_readsToken) {s0 : Int32} {s1 : Int32} {s2 : Nat} {μ : MS} {z : MS} (hf : f_X12_readsToken_309 s0 s1 s2 μ = some z) (hk : (fun z : MS => r = none ∧ μ' = z) z) : WW X D cy b r μ' 2 0 0 309 [] [.int s0, .int s1, .ref (b + s2)] μ := by
  unfold f_X12_readsToken_309 at hf
  refine r_iadd hB (by decide +kernel : decode cX12_readsToken 309 = .ok (.iadd, 1)) ?_
  refine r_pI hB cf12 5 (by decide) (own := "PulseRemoteModel") rfl (Or.inl k_1120) (Or.inl rfl) rfl (by decide +kernel : decode cX12_readsToken 310 = .ok (.putfield 121, 3)) hf (fun m310 hf => ?_)
  obtain rfl := Option.some.inj hf
  obtain ⟨rfl, rfl⟩ := hk
  exact r_vret hB (by decide +kernel : decode cX12_readsToken 313 = .ok (.return_, 1))
set_option maxHeartbeats 4000000 in
set_option maxRecDepth 100000 in
theorem t_X12_readsToken_289 {X : BX} {D : va_G} {cy : Nat → ClassId} {b : Nat} {r : Option Value} {μ' : MS} (hB : BB X D cy b yX12_readsToken cX12_readsToken 2 none rmX12_readsToken) {l0 : Nat} {s0 : Int32} {s1 : Nat} {μ : MS} {z : MS} (hf : f_X12_readsToken_289 l0 s0 s1 μ = some z) (hk : (fun z : MS => r = none ∧ μ' = z) z) : WW X D cy b r μ' 2 0 0 289 [(0, .ref (b + l0))] [.int s0, .ref (b + s1)] μ := by
  unfold f_X12_readsToken_289 at hf
  refine r_pI hB cf12 7 (by decide) (own := "PulseRemoteModel") rfl (Or.inl k_1122) (Or.inl rfl) rfl (by decide +kernel : decode cX12_readsToken 289 = .ok (.putfield 135, 3)) hf (fun m289 hf => ?_)
  refine r_aload_n hB 0 rfl (by decide +kernel : decode cX12_readsToken 292 = .ok (.aload_n 0, 1)) rfl ?_
  refine r_dup hB (by decide +kernel : decode cX12_readsToken 293 = .ok (.dup, 1)) rfl ?_
  refine r_gI hB cf12 5 (by decide) (own := "PulseRemoteModel") rfl (Or.inl k_1120) (by decide +kernel) (by decide +kernel : decode cX12_readsToken 294 = .ok (.getfield 121, 3)) hf (fun x294 hf => ?_)
  refine r_aload_n hB 0 rfl (by decide +kernel : decode cX12_readsToken 297 = .ok (.aload_n 0, 1)) rfl ?_
  refine r_cVi hB [] [.int x294, .ref (b + l0)] cf12 (own := "PulseRemoteModel") rfl cmX12_here imX12_here (Or.inl k_1330) (by decide) rfl rfl rfl (Nat.le_of_ble_eq_true rfl) (by decide +kernel : decode cX12_readsToken 298 = .ok (.invokevirtual 124, 3)) (fun z hz => m_X12_here _ _ _ _ hz) rfl hf (fun z298 hf => ?_)
  refine r_if_ge hB (tgt := 308) (by decide +kernel : decode cX12_readsToken 301 = .ok (.ifCond .ge 7, 3)) (by decide) hf (fun _ hf => ?_) (fun _ hf => ?_)
  · refine r_iconst hB (v := 1) (by decide +kernel : decode cX12_readsToken 308 = .ok (.iconst 1, 1)) (by decide +kernel) ?_
    exact WW.sub [] rfl (t_X12_readsToken_309 hB hf hk)
  · refine r_iconst hB (v := 0) (by decide +kernel : decode cX12_readsToken 304 = .ok (.iconst 0, 1)) (by decide +kernel) ?_
    refine r_goto hB (tgt := 309) (by decide +kernel : decode cX12_readsToken 305 = .ok (.goto 4, 3)) (by decide) ?_
    exact WW.sub [] rfl (t_X12_readsToken_309 hB hf hk)
set_option maxHeartbeats 4000000 in
set_option maxRecDepth 100000 in
theorem t_X12_readsToken_257 {X : BX} {D : va_G} {cy : Nat → ClassId} {b : Nat} {r : Option Value} {μ' : MS} (hB : BB X D cy b yX12_readsToken cX12_readsToken 2 none rmX12_readsToken) {s0 : Int32} {s1 : Nat} {μ : MS} {z : MS} (hf : f_X12_readsToken_257 s0 s1 μ = some z) (hk : (fun z : MS => r = none ∧ μ' = z) z) : WW X D cy b r μ' 2 0 0 257 [] [.int s0, .ref (b + s1)] μ := by
  unfold f_X12_readsToken_257 at hf
  refine r_pI hB cf12 7 (by decide) (own := "PulseRemoteModel") rfl (Or.inl k_1122) (Or.inl rfl) rfl (by decide +kernel : decode cX12_readsToken 257 = .ok (.putfield 135, 3)) hf (fun m257 hf => ?_)
  refine r_goto hB (tgt := 313) (by decide +kernel : decode cX12_readsToken 260 = .ok (.goto 53, 3)) (by decide) ?_
  obtain rfl := Option.some.inj hf
  obtain ⟨rfl, rfl⟩ := hk
  exact r_vret hB (by decide +kernel : decode cX12_readsToken 313 = .ok (.return_, 1))
set_option maxHeartbeats 4000000 in
set_option maxRecDepth 100000 in
theorem t_X12_readsToken_252 {X : BX} {D : va_G} {cy : Nat → ClassId} {b : Nat} {r : Option Value} {μ' : MS} (hB : BB X D cy b yX12_readsToken cX12_readsToken 2 none rmX12_readsToken) {s0 : Nat} {μ : MS} {z : MS} (hf : f_X12_readsToken_252 s0 μ = some z) (hk : (fun z : MS => r = none ∧ μ' = z) z) : WW X D cy b r μ' 2 0 0 252 [] [.ref (b + s0)] μ := by
  unfold f_X12_readsToken_252 at hf
  refine r_iconst hB (v := 4) (by decide +kernel : decode cX12_readsToken 252 = .ok (.iconst 4, 1)) (by decide +kernel) ?_
  refine r_goto hB (tgt := 257) (by decide +kernel : decode cX12_readsToken 253 = .ok (.goto 4, 3)) (by decide) ?_
  exact WW.sub [] rfl (t_X12_readsToken_257 hB hf hk)
set_option maxHeartbeats 4000000 in
set_option maxRecDepth 100000 in
theorem t_X12_readsToken_256 {X : BX} {D : va_G} {cy : Nat → ClassId} {b : Nat} {r : Option Value} {μ' : MS} (hB : BB X D cy b yX12_readsToken cX12_readsToken 2 none rmX12_readsToken) {s0 : Nat} {μ : MS} {z : MS} (hf : f_X12_readsToken_256 s0 μ = some z) (hk : (fun z : MS => r = none ∧ μ' = z) z) : WW X D cy b r μ' 2 0 0 256 [] [.ref (b + s0)] μ := by
  unfold f_X12_readsToken_256 at hf
  refine r_iconst hB (v := 2) (by decide +kernel : decode cX12_readsToken 256 = .ok (.iconst 2, 1)) (by decide +kernel) ?_
  exact WW.sub [] rfl (t_X12_readsToken_257 hB hf hk)
set_option maxHeartbeats 4000000 in
set_option maxRecDepth 100000 in
theorem t_X12_readsToken_221 {X : BX} {D : va_G} {cy : Nat → ClassId} {b : Nat} {r : Option Value} {μ' : MS} (hB : BB X D cy b yX12_readsToken cX12_readsToken 2 none rmX12_readsToken) {l0 : Nat} {l1 : Int32} {μ : MS} {z : MS} (hf : f_X12_readsToken_221 l0 l1 μ = some z) (hk : (fun z : MS => r = none ∧ μ' = z) z) : WW X D cy b r μ' 2 0 0 221 [(0, .ref (b + l0)), (1, .int l1)] [] μ := by
  unfold f_X12_readsToken_221 at hf
  refine r_aload_n hB 0 rfl (by decide +kernel : decode cX12_readsToken 221 = .ok (.aload_n 0, 1)) rfl ?_
  refine r_aload_n hB 0 rfl (by decide +kernel : decode cX12_readsToken 222 = .ok (.aload_n 0, 1)) rfl ?_
  refine r_gI hB cf12 5 (by decide) (own := "PulseRemoteModel") rfl (Or.inl k_1120) (by decide +kernel) (by decide +kernel : decode cX12_readsToken 223 = .ok (.getfield 121, 3)) hf (fun x223 hf => ?_)
  refine r_aload_n hB 0 rfl (by decide +kernel : decode cX12_readsToken 226 = .ok (.aload_n 0, 1)) rfl ?_
  refine r_gI hB cf12 6 (by decide) (own := "PulseRemoteModel") rfl (Or.inl k_1121) (by decide +kernel) (by decide +kernel : decode cX12_readsToken 227 = .ok (.getfield 128, 3)) hf (fun x227 hf => ?_)
  refine r_isub hB (by decide +kernel : decode cX12_readsToken 230 = .ok (.isub, 1)) ?_
  refine r_iconst hB (v := 5) (by decide +kernel : decode cX12_readsToken 231 = .ok (.iconst 5, 1)) (by decide +kernel) ?_
  refine r_icmp_gt hB (tgt := 252) (by decide +kernel : decode cX12_readsToken 232 = .ok (.if_icmp .gt 20, 3)) (by decide) hf (fun _ hf => ?_) (fun _ hf => ?_)
  · exact WW.sub [] rfl (t_X12_readsToken_252 hB hf hk)
  · refine r_iload_n hB 1 rfl (by decide +kernel : decode cX12_readsToken 235 = .ok (.iload_n 1, 1)) rfl ?_
    refine r_if_eq hB (tgt := 256) (by decide +kernel : decode cX12_readsToken 236 = .ok (.ifCond .eq 20, 3)) (by decide) hf (fun _ hf => ?_) (fun _ hf => ?_)
    · exact WW.sub [] rfl (t_X12_readsToken_256 hB hf hk)
    · refine r_aload_n hB 0 rfl (by decide +kernel : decode cX12_readsToken 239 = .ok (.aload_n 0, 1)) rfl ?_
      refine r_gI hB cf12 5 (by decide) (own := "PulseRemoteModel") rfl (Or.inl k_1120) (by decide +kernel) (by decide +kernel : decode cX12_readsToken 240 = .ok (.getfield 121, 3)) hf (fun x240 hf => ?_)
      refine r_aload_n hB 0 rfl (by decide +kernel : decode cX12_readsToken 243 = .ok (.aload_n 0, 1)) rfl ?_
      refine r_gI hB cf12 6 (by decide) (own := "PulseRemoteModel") rfl (Or.inl k_1121) (by decide +kernel) (by decide +kernel : decode cX12_readsToken 244 = .ok (.getfield 128, 3)) hf (fun x244 hf => ?_)
      refine r_isub hB (by decide +kernel : decode cX12_readsToken 247 = .ok (.isub, 1)) ?_
      refine r_iconst hB (v := 1) (by decide +kernel : decode cX12_readsToken 248 = .ok (.iconst 1, 1)) (by decide +kernel) ?_
      refine r_icmp_le hB (tgt := 256) (by decide +kernel : decode cX12_readsToken 249 = .ok (.if_icmp .le 7, 3)) (by decide) hf (fun _ hf => ?_) (fun _ hf => ?_)
      · exact WW.sub [] rfl (t_X12_readsToken_256 hB hf hk)
      · exact WW.sub [] rfl (t_X12_readsToken_252 hB hf hk)
set_option maxHeartbeats 4000000 in
set_option maxRecDepth 100000 in
theorem t_X12_readsToken_205 {X : BX} {D : va_G} {cy : Nat → ClassId} {b : Nat} {r : Option Value} {μ' : MS} (hB : BB X D cy b yX12_readsToken cX12_readsToken 2 none rmX12_readsToken) {l0 : Nat} {l1 : Int32} {s0 : Int64} {s1 : Nat} {μ : MS} {z : ((Nat × Int32 × MS) ⊕ MS)} (hf : f_X12_readsToken_205 l0 l1 s0 s1 μ = some z) (hk : (Sum.elim (fun s : Nat × Int32 × MS => WW X D cy b r μ' 2 0 0 154 [(0, .ref (b + s.1)), (1, .int s.2.1)] [] s.2.2) (fun z : MS => r = none ∧ μ' = z)) z) : WW X D cy b r μ' 2 0 0 205 [(0, .ref (b + l0)), (1, .int l1)] [.long s0, .ref (b + s1)] μ := by
  unfold f_X12_readsToken_205 at hf
  refine r_pL hB cf12 8 (by decide) (own := "PulseRemoteModel") rfl (Or.inl k_1123) (Or.inl rfl) rfl (by decide +kernel : decode cX12_readsToken 205 = .ok (.putfield 131, 3)) hf (fun m205 hf => ?_)
  refine r_aload_n hB 0 rfl (by decide +kernel : decode cX12_readsToken 208 = .ok (.aload_n 0, 1)) rfl ?_
  refine r_dup hB (by decide +kernel : decode cX12_readsToken 209 = .ok (.dup, 1)) rfl ?_
  refine r_gI hB cf12 5 (by decide) (own := "PulseRemoteModel") rfl (Or.inl k_1120) (by decide +kernel) (by decide +kernel : decode cX12_readsToken 210 = .ok (.getfield 121, 3)) hf (fun x210 hf => ?_)
  refine r_iconst hB (v := 1) (by decide +kernel : decode cX12_readsToken 213 = .ok (.iconst 1, 1)) (by decide +kernel) ?_
  refine r_iadd hB (by decide +kernel : decode cX12_readsToken 214 = .ok (.iadd, 1)) ?_
  refine r_pI hB cf12 5 (by decide) (own := "PulseRemoteModel") rfl (Or.inl k_1120) (Or.inl rfl) rfl (by decide +kernel : decode cX12_readsToken 215 = .ok (.putfield 121, 3)) hf (fun m215 hf => ?_)
  refine r_goto hB (tgt := 154) (by decide +kernel : decode cX12_readsToken 218 = .ok (.goto (-64), 3)) (by decide) ?_
  obtain rfl := Option.some.inj hf
  exact WW.sub [0, 1] rfl hk
set_option maxHeartbeats 4000000 in
set_option maxRecDepth 100000 in
theorem t_X12_readsToken_154_b {X : BX} {D : va_G} {cy : Nat → ClassId} {b : Nat} {r : Option Value} {μ' : MS} (hB : BB X D cy b yX12_readsToken cX12_readsToken 2 none rmX12_readsToken) {l0 : Nat} {l1 : Int32} {μ : MS} {z : ((Nat × Int32 × MS) ⊕ MS)} (hf : f_X12_readsToken_154_b l0 l1 μ = some z) (hk : (Sum.elim (fun s : Nat × Int32 × MS => WW X D cy b r μ' 2 0 0 154 [(0, .ref (b + s.1)), (1, .int s.2.1)] [] s.2.2) (fun z : MS => r = none ∧ μ' = z)) z) : WW X D cy b r μ' 2 0 0 154 [(0, .ref (b + l0)), (1, .int l1)] [] μ := by
  unfold f_X12_readsToken_154_b at hf
  refine r_aload_n hB 0 rfl (by decide +kernel : decode cX12_readsToken 154 = .ok (.aload_n 0, 1)) rfl ?_
  refine r_cVi hB [] [] cf12 (own := "PulseRemoteModel") rfl cmX12_here imX12_here (Or.inl k_1330) (by decide) rfl rfl rfl (Nat.le_of_ble_eq_true rfl) (by decide +kernel : decode cX12_readsToken 155 = .ok (.invokevirtual 124, 3)) (fun z hz => m_X12_here _ _ _ _ hz) rfl hf (fun z155 hf => ?_)
  refine r_bipush hB (v := 48) (by decide +kernel : decode cX12_readsToken 158 = .ok (.bipush 48, 2)) (by decide +kernel) ?_
  refine r_bipush hB (v := 57) (by decide +kernel : decode cX12_readsToken 160 = .ok (.bipush 57, 2)) (by decide +kernel) ?_
  refine r_cSi hB [.int z155.1, .int 48, .int 57] [] (own := "PulseRemoteModel") rfl cmX12_in smX12_in (Or.inl ⟨rfl, k_1233⟩) (by decide) rfl rfl rfl (Nat.le_of_ble_eq_true rfl) (by decide +kernel : decode cX12_readsToken 162 = .ok (.invokestatic 68, 3)) (fun z hz => m_X12_in _ _ _ _ hz) rfl hf (fun z162 hf => ?_)
  refine r_if_eq hB (tgt := 221) (by decide +kernel : decode cX12_readsToken 165 = .ok (.ifCond .eq 56, 3)) (by decide) hf (fun _ hf => ?_) (fun _ hf => ?_)
  · obtain ⟨_, hx0, rfl⟩ := xr_inv hf
    exact WW.sub [0, 1] rfl (t_X12_readsToken_221 hB hx0 hk)
  · refine r_aload_n hB 0 rfl (by decide +kernel : decode cX12_readsToken 168 = .ok (.aload_n 0, 1)) rfl ?_
    refine r_aload_n hB 0 rfl (by decide +kernel : decode cX12_readsToken 169 = .ok (.aload_n 0, 1)) rfl ?_
    refine r_gL hB cf12 8 (by decide) (own := "PulseRemoteModel") rfl (Or.inl k_1123) rfl (by decide +kernel : decode cX12_readsToken 170 = .ok (.getfield 131, 3)) hf (fun x170 hf => ?_)
    refine r_ldc2 hB (v := 100000) (own := "PulseRemoteModel") rfl k_1337 (by decide +kernel : decode cX12_readsToken 173 = .ok (.ldc2_w 144, 3)) ?_
    refine r_lcmp hB (by decide +kernel : decode cX12_readsToken 176 = .ok (.lcmp, 1)) ?_
    refine r_if_ge hB (tgt := 201) (by decide +kernel : decode cX12_readsToken 177 = .ok (.ifCond .ge 24, 3)) (by decide) hf (fun _ hf => ?_) (fun _ hf => ?_)
    · refine r_aload_n hB 0 rfl (by decide +kernel : decode cX12_readsToken 201 = .ok (.aload_n 0, 1)) rfl ?_
      refine r_gL hB cf12 8 (by decide) (own := "PulseRemoteModel") rfl (Or.inl k_1123) rfl (by decide +kernel : decode cX12_readsToken 202 = .ok (.getfield 131, 3)) hf (fun x202 hf => ?_)
      exact WW.sub [0, 1] rfl (t_X12_readsToken_205 hB hf hk)
    · refine r_ldc2 hB (v := 10) (own := "PulseRemoteModel") rfl k_1338 (by decide +kernel : decode cX12_readsToken 180 = .ok (.ldc2_w 146, 3)) ?_
      refine r_aload_n hB 0 rfl (by decide +kernel : decode cX12_readsToken 183 = .ok (.aload_n 0, 1)) rfl ?_
      refine r_gL hB cf12 8 (by decide) (own := "PulseRemoteModel") rfl (Or.inl k_1123) rfl (by decide +kernel : decode cX12_readsToken 184 = .ok (.getfield 131, 3)) hf (fun x184 hf => ?_)
      refine r_lmul hB (by decide +kernel : decode cX12_readsToken 187 = .ok (.lmul, 1)) ?_
      refine r_aload_n hB 0 rfl (by decide +kernel : decode cX12_readsToken 188 = .ok (.aload_n 0, 1)) rfl ?_
      refine r_cVi hB [] [.long (10 * x184), .ref (b + l0)] cf12 (own := "PulseRemoteModel") rfl cmX12_here imX12_here (Or.inl k_1330) (by decide) rfl rfl rfl (Nat.le_of_ble_eq_true rfl) (by decide +kernel : decode cX12_readsToken 189 = .ok (.invokevirtual 124, 3)) (fun z hz => m_X12_here _ _ _ _ hz) rfl hf (fun z189 hf => ?_)
      refine r_i2l hB (by decide +kernel : decode cX12_readsToken 192 = .ok (.i2l, 1)) ?_
      refine r_ladd hB (by decide +kernel : decode cX12_readsToken 193 = .ok (.ladd, 1)) ?_
      refine r_ldc2 hB (v := 48) (own := "PulseRemoteModel") rfl k_1339 (by decide +kernel : decode cX12_readsToken 194 = .ok (.ldc2_w 148, 3)) ?_
      refine r_lsub hB (by decide +kernel : decode cX12_readsToken 197 = .ok (.lsub, 1)) ?_
      refine r_goto hB (tgt := 205) (by decide +kernel : decode cX12_readsToken 198 = .ok (.goto 7, 3)) (by decide) ?_
      exact WW.sub [0, 1] rfl (t_X12_readsToken_205 hB hf hk)
set_option maxHeartbeats 4000000 in
set_option maxRecDepth 100000 in
theorem t_X12_readsToken_154 {X : BX} {D : va_G} {cy : Nat → ClassId} {b : Nat} {r : Option Value} {μ' : MS} (hB : BB X D cy b yX12_readsToken cX12_readsToken 2 none rmX12_readsToken) {l0 : Nat} {l1 : Int32} {μ : MS} {z : MS} (hf : f_X12_readsToken_154 l0 l1 μ = some z) (hk : (fun z : MS => r = none ∧ μ' = z) z) : WW X D cy b r μ' 2 0 0 154 [(0, .ref (b + l0)), (1, .int l1)] [] μ :=
  lp_ind (P := fun s : Nat × Int32 × MS => WW X D cy b r μ' 2 0 0 154 [(0, .ref (b + s.1)), (1, .int s.2.1)] [] s.2.2) (Q := (fun z : MS => r = none ∧ μ' = z)) (fun s z hz hk => t_X12_readsToken_154_b hB hz hk) (l0, l1, μ) z hf hk
set_option maxHeartbeats 4000000 in
set_option maxRecDepth 100000 in
theorem t_X12_readsToken_153 {X : BX} {D : va_G} {cy : Nat → ClassId} {b : Nat} {r : Option Value} {μ' : MS} (hB : BB X D cy b yX12_readsToken cX12_readsToken 2 none rmX12_readsToken) {l0 : Nat} {s0 : Int32} {μ : MS} {z : MS} (hf : f_X12_readsToken_153 l0 s0 μ = some z) (hk : (fun z : MS => r = none ∧ μ' = z) z) : WW X D cy b r μ' 2 0 0 153 [(0, .ref (b + l0))] [.int s0] μ := by
  unfold f_X12_readsToken_153 at hf
  refine r_istore_n hB (by decide +kernel : decode cX12_readsToken 153 = .ok (.istore_n 1, 1)) rfl (by decide) rfl ?_
  refine ww_lv (lv' := [(1, .int s0), (0, .ref (b + l0))]) rfl ?_
  exact WW.sub [1, 0] rfl (t_X12_readsToken_154 hB hf hk)
set_option maxHeartbeats 4000000 in
set_option maxRecDepth 100000 in
theorem t_X12_readsToken_313 {X : BX} {D : va_G} {cy : Nat → ClassId} {b : Nat} {r : Option Value} {μ' : MS} (hB : BB X D cy b yX12_readsToken cX12_readsToken 2 none rmX12_readsToken)  {μ : MS} {z : MS} (hf : f_X12_readsToken_313  μ = some z) (hk : (fun z : MS => r = none ∧ μ' = z) z) : WW X D cy b r μ' 2 0 0 313 [] [] μ := by
  unfold f_X12_readsToken_313 at hf
  obtain rfl := Option.some.inj hf
  obtain ⟨rfl, rfl⟩ := hk
  exact r_vret hB (by decide +kernel : decode cX12_readsToken 313 = .ok (.return_, 1))
set_option maxHeartbeats 4000000 in
set_option maxRecDepth 100000 in
theorem t_X12_readsToken_109 {X : BX} {D : va_G} {cy : Nat → ClassId} {b : Nat} {r : Option Value} {μ' : MS} (hB : BB X D cy b yX12_readsToken cX12_readsToken 2 none rmX12_readsToken) {l0 : Nat} {s0 : Int64} {s1 : Nat} {μ : MS} {z : ((Nat × MS) ⊕ MS)} (hf : f_X12_readsToken_109 l0 s0 s1 μ = some z) (hk : (Sum.elim (fun s : Nat × MS => WW X D cy b r μ' 2 0 0 54 [(0, .ref (b + s.1))] [] s.2) (fun z : MS => r = none ∧ μ' = z)) z) : WW X D cy b r μ' 2 0 0 109 [(0, .ref (b + l0))] [.long s0, .ref (b + s1)] μ := by
  unfold f_X12_readsToken_109 at hf
  refine r_pL hB cf12 8 (by decide) (own := "PulseRemoteModel") rfl (Or.inl k_1123) (Or.inl rfl) rfl (by decide +kernel : decode cX12_readsToken 109 = .ok (.putfield 131, 3)) hf (fun m109 hf => ?_)
  refine r_aload_n hB 0 rfl (by decide +kernel : decode cX12_readsToken 112 = .ok (.aload_n 0, 1)) rfl ?_
  refine r_dup hB (by decide +kernel : decode cX12_readsToken 113 = .ok (.dup, 1)) rfl ?_
  refine r_gI hB cf12 5 (by decide) (own := "PulseRemoteModel") rfl (Or.inl k_1120) (by decide +kernel) (by decide +kernel : decode cX12_readsToken 114 = .ok (.getfield 121, 3)) hf (fun x114 hf => ?_)
  refine r_iconst hB (v := 1) (by decide +kernel : decode cX12_readsToken 117 = .ok (.iconst 1, 1)) (by decide +kernel) ?_
  refine r_iadd hB (by decide +kernel : decode cX12_readsToken 118 = .ok (.iadd, 1)) ?_
  refine r_pI hB cf12 5 (by decide) (own := "PulseRemoteModel") rfl (Or.inl k_1120) (Or.inl rfl) rfl (by decide +kernel : decode cX12_readsToken 119 = .ok (.putfield 121, 3)) hf (fun m119 hf => ?_)
  refine r_goto hB (tgt := 54) (by decide +kernel : decode cX12_readsToken 122 = .ok (.goto (-68), 3)) (by decide) ?_
  obtain rfl := Option.some.inj hf
  exact WW.sub [0] rfl hk
set_option maxHeartbeats 4000000 in
set_option maxRecDepth 100000 in
theorem t_X12_readsToken_54_b {X : BX} {D : va_G} {cy : Nat → ClassId} {b : Nat} {r : Option Value} {μ' : MS} (hB : BB X D cy b yX12_readsToken cX12_readsToken 2 none rmX12_readsToken) {l0 : Nat} {μ : MS} {z : ((Nat × MS) ⊕ MS)} (hf : f_X12_readsToken_54_b l0 μ = some z) (hk : (Sum.elim (fun s : Nat × MS => WW X D cy b r μ' 2 0 0 54 [(0, .ref (b + s.1))] [] s.2) (fun z : MS => r = none ∧ μ' = z)) z) : WW X D cy b r μ' 2 0 0 54 [(0, .ref (b + l0))] [] μ := by
  unfold f_X12_readsToken_54_b at hf
  refine r_aload_n hB 0 rfl (by decide +kernel : decode cX12_readsToken 54 = .ok (.aload_n 0, 1)) rfl ?_
  refine r_cVi hB [] [] cf12 (own := "PulseRemoteModel") rfl cmX12_here imX12_here (Or.inl k_1330) (by decide) rfl rfl rfl (Nat.le_of_ble_eq_true rfl) (by decide +kernel : decode cX12_readsToken 55 = .ok (.invokevirtual 124, 3)) (fun z hz => m_X12_here _ _ _ _ hz) rfl hf (fun z55 hf => ?_)
  refine r_bipush hB (v := 97) (by decide +kernel : decode cX12_readsToken 58 = .ok (.bipush 97, 2)) (by decide +kernel) ?_
  refine r_bipush hB (v := 122) (by decide +kernel : decode cX12_readsToken 60 = .ok (.bipush 122, 2)) (by decide +kernel) ?_
  refine r_cSi hB [.int z55.1, .int 97, .int 122] [] (own := "PulseRemoteModel") rfl cmX12_in smX12_in (Or.inl ⟨rfl, k_1233⟩) (by decide) rfl rfl rfl (Nat.le_of_ble_eq_true rfl) (by decide +kernel : decode cX12_readsToken 62 = .ok (.invokestatic 68, 3)) (fun z hz => m_X12_in _ _ _ _ hz) rfl hf (fun z62 hf => ?_)
  refine r_if_eq hB (tgt := 313) (by decide +kernel : decode cX12_readsToken 65 = .ok (.ifCond .eq 248, 3)) (by decide) hf (fun _ hf => ?_) (fun _ hf => ?_)
  · obtain ⟨_, hx0, rfl⟩ := xr_inv hf
    exact WW.sub [] rfl (t_X12_readsToken_313 hB hx0 hk)
  · refine r_aload_n hB 0 rfl (by decide +kernel : decode cX12_readsToken 68 = .ok (.aload_n 0, 1)) rfl ?_
    refine r_aload_n hB 0 rfl (by decide +kernel : decode cX12_readsToken 69 = .ok (.aload_n 0, 1)) rfl ?_
    refine r_gI hB cf12 5 (by decide) (own := "PulseRemoteModel") rfl (Or.inl k_1120) (by decide +kernel) (by decide +kernel : decode cX12_readsToken 70 = .ok (.getfield 121, 3)) hf (fun x70 hf => ?_)
    refine r_aload_n hB 0 rfl (by decide +kernel : decode cX12_readsToken 73 = .ok (.aload_n 0, 1)) rfl ?_
    refine r_gI hB cf12 6 (by decide) (own := "PulseRemoteModel") rfl (Or.inl k_1121) (by decide +kernel) (by decide +kernel : decode cX12_readsToken 74 = .ok (.getfield 128, 3)) hf (fun x74 hf => ?_)
    refine r_isub hB (by decide +kernel : decode cX12_readsToken 77 = .ok (.isub, 1)) ?_
    refine r_bipush hB (v := 8) (by decide +kernel : decode cX12_readsToken 78 = .ok (.bipush 8, 2)) (by decide +kernel) ?_
    refine r_icmp_ge hB (tgt := 106) (by decide +kernel : decode cX12_readsToken 80 = .ok (.if_icmp .ge 26, 3)) (by decide) hf (fun _ hf => ?_) (fun _ hf => ?_)
    · refine r_ldc2 hB (v := (-1)) (own := "PulseRemoteModel") rfl k_1336 (by decide +kernel : decode cX12_readsToken 106 = .ok (.ldc2_w 142, 3)) ?_
      exact WW.sub [0] rfl (t_X12_readsToken_109 hB hf hk)
    · refine r_ldc2 hB (v := 27) (own := "PulseRemoteModel") rfl k_1334 (by decide +kernel : decode cX12_readsToken 83 = .ok (.ldc2_w 138, 3)) ?_
      refine r_aload_n hB 0 rfl (by decide +kernel : decode cX12_readsToken 86 = .ok (.aload_n 0, 1)) rfl ?_
      refine r_gL hB cf12 8 (by decide) (own := "PulseRemoteModel") rfl (Or.inl k_1123) rfl (by decide +kernel : decode cX12_readsToken 87 = .ok (.getfield 131, 3)) hf (fun x87 hf => ?_)
      refine r_lmul hB (by decide +kernel : decode cX12_readsToken 90 = .ok (.lmul, 1)) ?_
      refine r_aload_n hB 0 rfl (by decide +kernel : decode cX12_readsToken 91 = .ok (.aload_n 0, 1)) rfl ?_
      refine r_cVi hB [] [.long (27 * x87), .ref (b + l0)] cf12 (own := "PulseRemoteModel") rfl cmX12_here imX12_here (Or.inl k_1330) (by decide) rfl rfl rfl (Nat.le_of_ble_eq_true rfl) (by decide +kernel : decode cX12_readsToken 92 = .ok (.invokevirtual 124, 3)) (fun z hz => m_X12_here _ _ _ _ hz) rfl hf (fun z92 hf => ?_)
      refine r_i2l hB (by decide +kernel : decode cX12_readsToken 95 = .ok (.i2l, 1)) ?_
      refine r_ladd hB (by decide +kernel : decode cX12_readsToken 96 = .ok (.ladd, 1)) ?_
      refine r_ldc2 hB (v := 97) (own := "PulseRemoteModel") rfl k_1335 (by decide +kernel : decode cX12_readsToken 97 = .ok (.ldc2_w 140, 3)) ?_
      refine r_lsub hB (by decide +kernel : decode cX12_readsToken 100 = .ok (.lsub, 1)) ?_
      refine r_lconst hB (v := 1) (by decide +kernel : decode cX12_readsToken 101 = .ok (.lconst 1, 1)) (by decide +kernel) ?_
      refine r_ladd hB (by decide +kernel : decode cX12_readsToken 102 = .ok (.ladd, 1)) ?_
      refine r_goto hB (tgt := 109) (by decide +kernel : decode cX12_readsToken 103 = .ok (.goto 6, 3)) (by decide) ?_
      exact WW.sub [0] rfl (t_X12_readsToken_109 hB hf hk)
set_option maxHeartbeats 4000000 in
set_option maxRecDepth 100000 in
theorem t_X12_readsToken_54 {X : BX} {D : va_G} {cy : Nat → ClassId} {b : Nat} {r : Option Value} {μ' : MS} (hB : BB X D cy b yX12_readsToken cX12_readsToken 2 none rmX12_readsToken) {l0 : Nat} {μ : MS} {z : MS} (hf : f_X12_readsToken_54 l0 μ = some z) (hk : (fun z : MS => r = none ∧ μ' = z) z) : WW X D cy b r μ' 2 0 0 54 [(0, .ref (b + l0))] [] μ :=
  lp_ind (P := fun s : Nat × MS => WW X D cy b r μ' 2 0 0 54 [(0, .ref (b + s.1))] [] s.2) (Q := (fun z : MS => r = none ∧ μ' = z)) (fun s z hz hk => t_X12_readsToken_54_b hB hz hk) (l0, μ) z hf hk
set_option maxHeartbeats 4000000 in
set_option maxRecDepth 100000 in
theorem t_X12_readsToken_22 {X : BX} {D : va_G} {cy : Nat → ClassId} {b : Nat} {r : Option Value} {μ' : MS} (hB : BB X D cy b yX12_readsToken cX12_readsToken 2 none rmX12_readsToken) {l0 : Nat} {μ : MS} {z : MS} (hf : f_X12_readsToken_22 l0 μ = some z) (hk : (fun z : MS => r = none ∧ μ' = z) z) : WW X D cy b r μ' 2 0 0 22 [(0, .ref (b + l0))] [] μ := by
  unfold f_X12_readsToken_22 at hf
  refine r_aload_n hB 0 rfl (by decide +kernel : decode cX12_readsToken 22 = .ok (.aload_n 0, 1)) rfl ?_
  refine r_aload_n hB 0 rfl (by decide +kernel : decode cX12_readsToken 23 = .ok (.aload_n 0, 1)) rfl ?_
  refine r_gI hB cf12 5 (by decide) (own := "PulseRemoteModel") rfl (Or.inl k_1120) (by decide +kernel) (by decide +kernel : decode cX12_readsToken 24 = .ok (.getfield 121, 3)) hf (fun x24 hf => ?_)
  refine r_pI hB cf12 6 (by decide) (own := "PulseRemoteModel") rfl (Or.inl k_1121) (Or.inl rfl) rfl (by decide +kernel : decode cX12_readsToken 27 = .ok (.putfield 128, 3)) hf (fun m27 hf => ?_)
  refine r_aload_n hB 0 rfl (by decide +kernel : decode cX12_readsToken 30 = .ok (.aload_n 0, 1)) rfl ?_
  refine r_lconst hB (v := 0) (by decide +kernel : decode cX12_readsToken 31 = .ok (.lconst 0, 1)) (by decide +kernel) ?_
  refine r_pL hB cf12 8 (by decide) (own := "PulseRemoteModel") rfl (Or.inl k_1123) (Or.inl rfl) rfl (by decide +kernel : decode cX12_readsToken 32 = .ok (.putfield 131, 3)) hf (fun m32 hf => ?_)
  refine r_aload_n hB 0 rfl (by decide +kernel : decode cX12_readsToken 35 = .ok (.aload_n 0, 1)) rfl ?_
  refine r_cVi hB [] [] cf12 (own := "PulseRemoteModel") rfl cmX12_here imX12_here (Or.inl k_1330) (by decide) rfl rfl rfl (Nat.le_of_ble_eq_true rfl) (by decide +kernel : decode cX12_readsToken 36 = .ok (.invokevirtual 124, 3)) (fun z hz => m_X12_here _ _ _ _ hz) rfl hf (fun z36 hf => ?_)
  refine r_bipush hB (v := 97) (by decide +kernel : decode cX12_readsToken 39 = .ok (.bipush 97, 2)) (by decide +kernel) ?_
  refine r_bipush hB (v := 122) (by decide +kernel : decode cX12_readsToken 41 = .ok (.bipush 122, 2)) (by decide +kernel) ?_
  refine r_cSi hB [.int z36.1, .int 97, .int 122] [] (own := "PulseRemoteModel") rfl cmX12_in smX12_in (Or.inl ⟨rfl, k_1233⟩) (by decide) rfl rfl rfl (Nat.le_of_ble_eq_true rfl) (by decide +kernel : decode cX12_readsToken 43 = .ok (.invokestatic 68, 3)) (fun z hz => m_X12_in _ _ _ _ hz) rfl hf (fun z43 hf => ?_)
  refine r_if_eq hB (tgt := 125) (by decide +kernel : decode cX12_readsToken 46 = .ok (.ifCond .eq 79, 3)) (by decide) hf (fun _ hf => ?_) (fun _ hf => ?_)
  · refine r_aload_n hB 0 rfl (by decide +kernel : decode cX12_readsToken 125 = .ok (.aload_n 0, 1)) rfl ?_
    refine r_cVi hB [] [] cf12 (own := "PulseRemoteModel") rfl cmX12_here imX12_here (Or.inl k_1330) (by decide) rfl rfl rfl (Nat.le_of_ble_eq_true rfl) (by decide +kernel : decode cX12_readsToken 126 = .ok (.invokevirtual 124, 3)) (fun z hz => m_X12_here _ _ _ _ hz) rfl hf (fun z126 hf => ?_)
    refine r_bipush hB (v := 48) (by decide +kernel : decode cX12_readsToken 129 = .ok (.bipush 48, 2)) (by decide +kernel) ?_
    refine r_bipush hB (v := 57) (by decide +kernel : decode cX12_readsToken 131 = .ok (.bipush 57, 2)) (by decide +kernel) ?_
    refine r_cSi hB [.int z126.1, .int 48, .int 57] [] (own := "PulseRemoteModel") rfl cmX12_in smX12_in (Or.inl ⟨rfl, k_1233⟩) (by decide) rfl rfl rfl (Nat.le_of_ble_eq_true rfl) (by decide +kernel : decode cX12_readsToken 133 = .ok (.invokestatic 68, 3)) (fun z hz => m_X12_in _ _ _ _ hz) rfl hf (fun z133 hf => ?_)
    refine r_if_eq hB (tgt := 263) (by decide +kernel : decode cX12_readsToken 136 = .ok (.ifCond .eq 127, 3)) (by decide) hf (fun _ hf => ?_) (fun _ hf => ?_)
    · refine r_aload_n hB 0 rfl (by decide +kernel : decode cX12_readsToken 263 = .ok (.aload_n 0, 1)) rfl ?_
      refine r_aload_n hB 0 rfl (by decide +kernel : decode cX12_readsToken 264 = .ok (.aload_n 0, 1)) rfl ?_
      refine r_cVi hB [] [.ref (b + l0)] cf12 (own := "PulseRemoteModel") rfl cmX12_here imX12_here (Or.inl k_1330) (by decide) rfl rfl rfl (Nat.le_of_ble_eq_true rfl) (by decide +kernel : decode cX12_readsToken 265 = .ok (.invokevirtual 124, 3)) (fun z hz => m_X12_here _ _ _ _ hz) rfl hf (fun z265 hf => ?_)
      refine r_if_ge hB (tgt := 275) (by decide +kernel : decode cX12_readsToken 268 = .ok (.ifCond .ge 7, 3)) (by decide) hf (fun _ hf => ?_) (fun _ hf => ?_)
      · refine r_aload_n hB 0 rfl (by decide +kernel : decode cX12_readsToken 275 = .ok (.aload_n 0, 1)) rfl ?_
        refine r_cVi hB [] [.ref (b + l0)] cf12 (own := "PulseRemoteModel") rfl cmX12_here imX12_here (Or.inl k_1330) (by decide) rfl rfl rfl (Nat.le_of_ble_eq_true rfl) (by decide +kernel : decode cX12_readsToken 276 = .ok (.invokevirtual 124, 3)) (fun z hz => m_X12_here _ _ _ _ hz) rfl hf (fun z276 hf => ?_)
        refine r_bipush hB (v := 59) (by decide +kernel : decode cX12_readsToken 279 = .ok (.bipush 59, 2)) (by decide +kernel) ?_
        refine r_icmp_ne hB (tgt := 288) (by decide +kernel : decode cX12_readsToken 281 = .ok (.if_icmp .ne 7, 3)) (by decide) hf (fun _ hf => ?_) (fun _ hf => ?_)
        · refine r_iconst hB (v := 3) (by decide +kernel : decode cX12_readsToken 284 = .ok (.iconst 3, 1)) (by decide +kernel) ?_
          refine r_goto hB (tgt := 289) (by decide +kernel : decode cX12_readsToken 285 = .ok (.goto 4, 3)) (by decide) ?_
          exact WW.sub [0] rfl (t_X12_readsToken_289 hB hf hk)
        · refine r_iconst hB (v := 4) (by decide +kernel : decode cX12_readsToken 288 = .ok (.iconst 4, 1)) (by decide +kernel) ?_
          exact WW.sub [0] rfl (t_X12_readsToken_289 hB hf hk)
      · refine r_iconst hB (v := 0) (by decide +kernel : decode cX12_readsToken 271 = .ok (.iconst 0, 1)) (by decide +kernel) ?_
        refine r_goto hB (tgt := 289) (by decide +kernel : decode cX12_readsToken 272 = .ok (.goto 17, 3)) (by decide) ?_
        exact WW.sub [0] rfl (t_X12_readsToken_289 hB hf hk)
    · refine r_aload_n hB 0 rfl (by decide +kernel : decode cX12_readsToken 139 = .ok (.aload_n 0, 1)) rfl ?_
      refine r_cVi hB [] [] cf12 (own := "PulseRemoteModel") rfl cmX12_here imX12_here (Or.inl k_1330) (by decide) rfl rfl rfl (Nat.le_of_ble_eq_true rfl) (by decide +kernel : decode cX12_readsToken 140 = .ok (.invokevirtual 124, 3)) (fun z hz => m_X12_here _ _ _ _ hz) rfl hf (fun z140 hf => ?_)
      refine r_bipush hB (v := 48) (by decide +kernel : decode cX12_readsToken 143 = .ok (.bipush 48, 2)) (by decide +kernel) ?_
      refine r_icmp_ne hB (tgt := 152) (by decide +kernel : decode cX12_readsToken 145 = .ok (.if_icmp .ne 7, 3)) (by decide) hf (fun _ hf => ?_) (fun _ hf => ?_)
      · refine r_iconst hB (v := 1) (by decide +kernel : decode cX12_readsToken 148 = .ok (.iconst 1, 1)) (by decide +kernel) ?_
        refine r_goto hB (tgt := 153) (by decide +kernel : decode cX12_readsToken 149 = .ok (.goto 4, 3)) (by decide) ?_
        exact WW.sub [0] rfl (t_X12_readsToken_153 hB hf hk)
      · refine r_iconst hB (v := 0) (by decide +kernel : decode cX12_readsToken 152 = .ok (.iconst 0, 1)) (by decide +kernel) ?_
        exact WW.sub [0] rfl (t_X12_readsToken_153 hB hf hk)
  · refine r_aload_n hB 0 rfl (by decide +kernel : decode cX12_readsToken 49 = .ok (.aload_n 0, 1)) rfl ?_
    refine r_iconst hB (v := 1) (by decide +kernel : decode cX12_readsToken 50 = .ok (.iconst 1, 1)) (by decide +kernel) ?_
    refine r_pI hB cf12 7 (by decide) (own := "PulseRemoteModel") rfl (Or.inl k_1122) (Or.inl rfl) rfl (by decide +kernel : decode cX12_readsToken 51 = .ok (.putfield 135, 3)) hf (fun m51 hf => ?_)
    exact WW.sub [0] rfl (t_X12_readsToken_54 hB hf hk)
set_option maxHeartbeats 4000000 in
set_option maxRecDepth 100000 in
theorem t_X12_readsToken_0_b {X : BX} {D : va_G} {cy : Nat → ClassId} {b : Nat} {r : Option Value} {μ' : MS} (hB : BB X D cy b yX12_readsToken cX12_readsToken 2 none rmX12_readsToken) {l0 : Nat} {μ : MS} {z : ((Nat × MS) ⊕ MS)} (hf : f_X12_readsToken_0_b l0 μ = some z) (hk : (Sum.elim (fun s : Nat × MS => WW X D cy b r μ' 2 0 0 0 [(0, .ref (b + s.1))] [] s.2) (fun z : MS => r = none ∧ μ' = z)) z) : WW X D cy b r μ' 2 0 0 0 [(0, .ref (b + l0))] [] μ := by
  unfold f_X12_readsToken_0_b at hf
  refine r_aload_n hB 0 rfl (by decide +kernel : decode cX12_readsToken 0 = .ok (.aload_n 0, 1)) rfl ?_
  refine r_cVi hB [] [] cf12 (own := "PulseRemoteModel") rfl cmX12_here imX12_here (Or.inl k_1330) (by decide) rfl rfl rfl (Nat.le_of_ble_eq_true rfl) (by decide +kernel : decode cX12_readsToken 1 = .ok (.invokevirtual 124, 3)) (fun z hz => m_X12_here _ _ _ _ hz) rfl hf (fun z1 hf => ?_)
  refine r_bipush hB (v := 32) (by decide +kernel : decode cX12_readsToken 4 = .ok (.bipush 32, 2)) (by decide +kernel) ?_
  refine r_icmp_ne hB (tgt := 22) (by decide +kernel : decode cX12_readsToken 6 = .ok (.if_icmp .ne 16, 3)) (by decide) hf (fun _ hf => ?_) (fun _ hf => ?_)
  · refine r_aload_n hB 0 rfl (by decide +kernel : decode cX12_readsToken 9 = .ok (.aload_n 0, 1)) rfl ?_
    refine r_dup hB (by decide +kernel : decode cX12_readsToken 10 = .ok (.dup, 1)) rfl ?_
    refine r_gI hB cf12 5 (by decide) (own := "PulseRemoteModel") rfl (Or.inl k_1120) (by decide +kernel) (by decide +kernel : decode cX12_readsToken 11 = .ok (.getfield 121, 3)) hf (fun x11 hf => ?_)
    refine r_iconst hB (v := 1) (by decide +kernel : decode cX12_readsToken 14 = .ok (.iconst 1, 1)) (by decide +kernel) ?_
    refine r_iadd hB (by decide +kernel : decode cX12_readsToken 15 = .ok (.iadd, 1)) ?_
    refine r_pI hB cf12 5 (by decide) (own := "PulseRemoteModel") rfl (Or.inl k_1120) (Or.inl rfl) rfl (by decide +kernel : decode cX12_readsToken 16 = .ok (.putfield 121, 3)) hf (fun m16 hf => ?_)
    refine r_goto hB (tgt := 0) (by decide +kernel : decode cX12_readsToken 19 = .ok (.goto (-19), 3)) (by decide) ?_
    obtain rfl := Option.some.inj hf
    exact WW.sub [0] rfl hk
  · obtain ⟨_, hx0, rfl⟩ := xr_inv hf
    exact WW.sub [0] rfl (t_X12_readsToken_22 hB hx0 hk)
set_option maxHeartbeats 4000000 in
set_option maxRecDepth 100000 in
theorem t_X12_readsToken_0 {X : BX} {D : va_G} {cy : Nat → ClassId} {b : Nat} {r : Option Value} {μ' : MS} (hB : BB X D cy b yX12_readsToken cX12_readsToken 2 none rmX12_readsToken) {l0 : Nat} {μ : MS} {z : MS} (hf : f_X12_readsToken_0 l0 μ = some z) (hk : (fun z : MS => r = none ∧ μ' = z) z) : WW X D cy b r μ' 2 0 0 0 [(0, .ref (b + l0))] [] μ :=
  lp_ind (P := fun s : Nat × MS => WW X D cy b r μ' 2 0 0 0 [(0, .ref (b + s.1))] [] s.2) (Q := (fun z : MS => r = none ∧ μ' = z)) (fun s z hz hk => t_X12_readsToken_0_b hB hz hk) (l0, μ) z hf hk
theorem m_X12_readsToken (l : Launch) (D : va_G) (cy : Nat → ClassId) (b : Nat) {l0 : Nat} {μ : MS} {z : MS} (hf : f_X12_readsToken l0 μ = some z) : Met l yX12_readsToken (.code yX12_readsToken cX12_readsToken 2 none :: GW) rmX12_readsToken (Pw D cy b [.ref (b + l0)] μ) (Qw D cy b (none) (z)) rmX12_readsToken.cells rmX12_readsToken.slots (fun q => b ≤ q) :=
  met_of (by decide) (Nat.le_of_ble_eq_true rfl) (fun X hB _ => (t_X12_readsToken_0 hB hf ⟨rfl, rfl⟩))
-- PulseRemoteModel.takes(Z)V
set_option maxHeartbeats 4000000 in
set_option maxRecDepth 100000 in
theorem t_X12_takes_17 {X : BX} {D : va_G} {cy : Nat → ClassId} {b : Nat} {r : Option Value} {μ' : MS} (hB : BB X D cy b yX12_takes cX12_takes 2 none rmX12_takes) {l0 : Nat} {s0 : Int32} {s1 : Nat} {μ : MS} {z : MS} (hf : f_X12_takes_17 l0 s0 s1 μ = some z) (hk : (fun z : MS => r = none ∧ μ' = z) z) : WW X D cy b r μ' 2 0 0 17 [(0, .ref (b + l0))] [.int s0, .ref (b + s1)] μ := by
  unfold f_X12_takes_17 at hf
  refine r_pZ hB cf12 9 (by decide) (own := "PulseRemoteModel") rfl (Or.inl k_1124) (Or.inl rfl) rfl (by decide +kernel : decode cX12_takes 17 = .ok (.putfield 150, 3)) hf (fun m17 hf => ?_)
  refine r_aload_n hB 0 rfl (by decide +kernel : decode cX12_takes 20 = .ok (.aload_n 0, 1)) rfl ?_
  refine r_gI hB cf12 9 (by decide) (own := "PulseRemoteModel") rfl (Or.inl k_1124) (by decide +kernel) (by decide +kernel : decode cX12_takes 21 = .ok (.getfield 150, 3)) hf (fun x21 hf => ?_)
  refine r_if_ne hB (tgt := 31) (by decide +kernel : decode cX12_takes 24 = .ok (.ifCond .ne 7, 3)) (by decide) hf (fun _ hf => ?_) (fun _ hf => ?_)
  · refine r_aload_n hB 0 rfl (by decide +kernel : decode cX12_takes 27 = .ok (.aload_n 0, 1)) rfl ?_
    refine r_cVv hB [] [] cf12 (own := "PulseRemoteModel") rfl cmX12_readsToken imX12_readsToken (Or.inl k_1326) (by decide) rfl rfl rfl (Nat.le_of_ble_eq_true rfl) (by decide +kernel : decode cX12_takes 28 = .ok (.invokevirtual 154, 3)) (fun z hz => m_X12_readsToken _ _ _ _ hz) rfl hf (fun z28 hf => ?_)
    obtain rfl := Option.some.inj hf
    obtain ⟨rfl, rfl⟩ := hk
    exact r_vret hB (by decide +kernel : decode cX12_takes 31 = .ok (.return_, 1))
  · obtain rfl := Option.some.inj hf
    obtain ⟨rfl, rfl⟩ := hk
    exact r_vret hB (by decide +kernel : decode cX12_takes 31 = .ok (.return_, 1))
set_option maxHeartbeats 4000000 in
set_option maxRecDepth 100000 in
theorem t_X12_takes_12 {X : BX} {D : va_G} {cy : Nat → ClassId} {b : Nat} {r : Option Value} {μ' : MS} (hB : BB X D cy b yX12_takes cX12_takes 2 none rmX12_takes) {l0 : Nat} {s0 : Nat} {μ : MS} {z : MS} (hf : f_X12_takes_12 l0 s0 μ = some z) (hk : (fun z : MS => r = none ∧ μ' = z) z) : WW X D cy b r μ' 2 0 0 12 [(0, .ref (b + l0))] [.ref (b + s0)] μ := by
  unfold f_X12_takes_12 at hf
  refine r_iconst hB (v := 1) (by decide +kernel : decode cX12_takes 12 = .ok (.iconst 1, 1)) (by decide +kernel) ?_
  refine r_goto hB (tgt := 17) (by decide +kernel : decode cX12_takes 13 = .ok (.goto 4, 3)) (by decide) ?_
  exact WW.sub [0] rfl (t_X12_takes_17 hB hf hk)
set_option maxHeartbeats 4000000 in
set_option maxRecDepth 100000 in
theorem t_X12_takes_0 {X : BX} {D : va_G} {cy : Nat → ClassId} {b : Nat} {r : Option Value} {μ' : MS} (hB : BB X D cy b yX12_takes cX12_takes 2 none rmX12_takes) {l0 : Nat} {l1 : Int32} {μ : MS} {z : MS} (hf : f_X12_takes l0 l1 μ = some z) (hk : (fun z : MS => r = none ∧ μ' = z) z) : WW X D cy b r μ' 2 0 0 0 [(0, .ref (b + l0)), (1, .int l1)] [] μ := by
  unfold f_X12_takes at hf
  refine r_aload_n hB 0 rfl (by decide +kernel : decode cX12_takes 0 = .ok (.aload_n 0, 1)) rfl ?_
  refine r_aload_n hB 0 rfl (by decide +kernel : decode cX12_takes 1 = .ok (.aload_n 0, 1)) rfl ?_
  refine r_gI hB cf12 9 (by decide) (own := "PulseRemoteModel") rfl (Or.inl k_1124) (by decide +kernel) (by decide +kernel : decode cX12_takes 2 = .ok (.getfield 150, 3)) hf (fun x2 hf => ?_)
  refine r_if_ne hB (tgt := 12) (by decide +kernel : decode cX12_takes 5 = .ok (.ifCond .ne 7, 3)) (by decide) hf (fun _ hf => ?_) (fun _ hf => ?_)
  · refine r_iload_n hB 1 rfl (by decide +kernel : decode cX12_takes 8 = .ok (.iload_n 1, 1)) rfl ?_
    refine r_if_ne hB (tgt := 16) (by decide +kernel : decode cX12_takes 9 = .ok (.ifCond .ne 7, 3)) (by decide) hf (fun _ hf => ?_) (fun _ hf => ?_)
    · exact WW.sub [0] rfl (t_X12_takes_12 hB hf hk)
    · refine r_iconst hB (v := 0) (by decide +kernel : decode cX12_takes 16 = .ok (.iconst 0, 1)) (by decide +kernel) ?_
      exact WW.sub [0] rfl (t_X12_takes_17 hB hf hk)
  · exact WW.sub [0] rfl (t_X12_takes_12 hB hf hk)
theorem m_X12_takes (l : Launch) (D : va_G) (cy : Nat → ClassId) (b : Nat) {l0 : Nat} {l1 : Int32} {μ : MS} {z : MS} (hf : f_X12_takes l0 l1 μ = some z) : Met l yX12_takes (.code yX12_takes cX12_takes 2 none :: GW) rmX12_takes (Pw D cy b [.ref (b + l0), .int l1] μ) (Qw D cy b (none) (z)) rmX12_takes.cells rmX12_takes.slots (fun q => b ≤ q) :=
  met_of (by decide) (Nat.le_of_ble_eq_true rfl) (fun X hB _ => (t_X12_takes_0 hB hf ⟨rfl, rfl⟩))
-- PulseRemoteModel.takesNumber(II)I
set_option maxHeartbeats 4000000 in
set_option maxRecDepth 100000 in
theorem t_X12_takesNumber_17 {X : BX} {D : va_G} {cy : Nat → ClassId} {b : Nat} {r : Option Value} {μ' : MS} (hB : BB X D cy b yX12_takesNumber cX12_takesNumber 4 (some .int) rmX12_takesNumber) {l0 : Nat} {l1 : Int32} {l2 : Int32} {s0 : Int32} {μ : MS} {z : (Int32 × MS)} (hf : f_X12_takesNumber_17 l0 l1 l2 s0 μ = some z) (hk : (fun z : Int32 × MS => r = some (.int z.1) ∧ μ' = z.2) z) : WW X D cy b r μ' 4 0 0 17 [(0, .ref (b + l0)), (1, .int l1), (2, .int l2)] [.int s0] μ := by
  unfold f_X12_takesNumber_17 at hf
  refine r_istore_n hB (by decide +kernel : decode cX12_takesNumber 17 = .ok (.istore_n 3, 1)) rfl (by decide) rfl ?_
  refine ww_lv (lv' := [(3, .int s0), (0, .ref (b + l0)), (1, .int l1), (2, .int l2)]) rfl ?_
  refine r_aload_n hB 1 rfl (by decide +kernel : decode cX12_takesNumber 18 = .ok (.aload_n 0, 1)) rfl ?_
  refine r_iload_n hB 0 rfl (by decide +kernel : decode cX12_takesNumber 19 = .ok (.iload_n 3, 1)) rfl ?_
  refine r_iload_n hB 2 rfl (by decide +kernel : decode cX12_takesNumber 20 = .ok (.iload_n 1, 1)) rfl ?_
  refine r_iload_n hB 3 rfl (by decide +kernel : decode cX12_takesNumber 21 = .ok (.iload_n 2, 1)) rfl ?_
  refine r_cSi hB [.int s0, .int l1, .int l2] [.ref (b + l0)] (own := "PulseRemoteModel") rfl cmX12_in smX12_in (Or.inl ⟨rfl, k_1233⟩) (by decide) rfl rfl rfl (Nat.le_of_ble_eq_true rfl) (by decide +kernel : decode cX12_takesNumber 22 = .ok (.invokestatic 68, 3)) (fun z hz => m_X12_in _ _ _ _ hz) rfl hf (fun z22 hf => ?_)
  refine r_cVv hB [.int z22.1] [] cf12 (own := "PulseRemoteModel") rfl cmX12_takes imX12_takes (Or.inl k_1342) (by decide) rfl rfl rfl (Nat.le_of_ble_eq_true rfl) (by decide +kernel : decode cX12_takesNumber 25 = .ok (.invokevirtual 157, 3)) (fun z hz => m_X12_takes _ _ _ _ hz) rfl hf (fun z25 hf => ?_)
  refine r_iload_n hB 0 rfl (by decide +kernel : decode cX12_takesNumber 28 = .ok (.iload_n 3, 1)) rfl ?_
  obtain rfl := Option.some.inj hf
  obtain ⟨rfl, rfl⟩ := hk
  exact r_iret hB (by decide +kernel : decode cX12_takesNumber 29 = .ok (.ireturn, 1))
set_option maxHeartbeats 4000000 in
set_option maxRecDepth 100000 in
theorem t_X12_takesNumber_0 {X : BX} {D : va_G} {cy : Nat → ClassId} {b : Nat} {r : Option Value} {μ' : MS} (hB : BB X D cy b yX12_takesNumber cX12_takesNumber 4 (some .int) rmX12_takesNumber) {l0 : Nat} {l1 : Int32} {l2 : Int32} {μ : MS} {z : (Int32 × MS)} (hf : f_X12_takesNumber l0 l1 l2 μ = some z) (hk : (fun z : Int32 × MS => r = some (.int z.1) ∧ μ' = z.2) z) : WW X D cy b r μ' 4 0 0 0 [(0, .ref (b + l0)), (1, .int l1), (2, .int l2)] [] μ := by
  unfold f_X12_takesNumber at hf
  refine r_aload_n hB 0 rfl (by decide +kernel : decode cX12_takesNumber 0 = .ok (.aload_n 0, 1)) rfl ?_
  refine r_gI hB cf12 7 (by decide) (own := "PulseRemoteModel") rfl (Or.inl k_1122) (by decide +kernel) (by decide +kernel : decode cX12_takesNumber 1 = .ok (.getfield 135, 3)) hf (fun x1 hf => ?_)
  refine r_iconst hB (v := 2) (by decide +kernel : decode cX12_takesNumber 4 = .ok (.iconst 2, 1)) (by decide +kernel) ?_
  refine r_icmp_ne hB (tgt := 16) (by decide +kernel : decode cX12_takesNumber 5 = .ok (.if_icmp .ne 11, 3)) (by decide) hf (fun _ hf => ?_) (fun _ hf => ?_)
  · refine r_aload_n hB 0 rfl (by decide +kernel : decode cX12_takesNumber 8 = .ok (.aload_n 0, 1)) rfl ?_
    refine r_gL hB cf12 8 (by decide) (own := "PulseRemoteModel") rfl (Or.inl k_1123) rfl (by decide +kernel : decode cX12_takesNumber 9 = .ok (.getfield 131, 3)) hf (fun x9 hf => ?_)
    refine r_l2i hB (by decide +kernel : decode cX12_takesNumber 12 = .ok (.l2i, 1)) ?_
    refine r_goto hB (tgt := 17) (by decide +kernel : decode cX12_takesNumber 13 = .ok (.goto 4, 3)) (by decide) ?_
    exact WW.sub [0, 1, 2] rfl (t_X12_takesNumber_17 hB hf hk)
  · refine r_iconst hB (v := (-1)) (by decide +kernel : decode cX12_takesNumber 16 = .ok (.iconst (-1), 1)) (by decide +kernel) ?_
    exact WW.sub [0, 1, 2] rfl (t_X12_takesNumber_17 hB hf hk)
theorem m_X12_takesNumber (l : Launch) (D : va_G) (cy : Nat → ClassId) (b : Nat) {l0 : Nat} {l1 : Int32} {l2 : Int32} {μ : MS} {z : Int32 × MS} (hf : f_X12_takesNumber l0 l1 l2 μ = some z) : Met l yX12_takesNumber (.code yX12_takesNumber cX12_takesNumber 4 (some .int) :: GW) rmX12_takesNumber (Pw D cy b [.ref (b + l0), .int l1, .int l2] μ) (Qw D cy b (some (.int z.1)) (z.2)) rmX12_takesNumber.cells rmX12_takesNumber.slots (fun q => b ≤ q) :=
  met_of (by decide) (Nat.le_of_ble_eq_true rfl) (fun X hB _ => (t_X12_takesNumber_0 hB hf ⟨rfl, rfl⟩))
-- PulseRemoteModel.readsProtocol()V
set_option maxHeartbeats 4000000 in
set_option maxRecDepth 100000 in
theorem t_X12_readsProtocol_143 {X : BX} {D : va_G} {cy : Nat → ClassId} {b : Nat} {r : Option Value} {μ' : MS} (hB : BB X D cy b yX12_readsProtocol cX12_readsProtocol 11 none rmX12_readsProtocol) {l0 : Nat} {l1 : Int32} {l2 : Int32} {l3 : Int32} {l4 : Int32} {l5 : Int32} {s0 : Int32} {s1 : Int32} {s2 : Nat} {μ : MS} {z : MS} (hf : f_X12_readsProtocol_143 l0 l1 l2 l3 l4 l5 s0 s1 s2 μ = some z) (hk : (fun z : MS => r = none ∧ μ' = z) z) : WW X D cy b r μ' 11 0 0 143 [(0, .ref (b + l0)), (1, .int l1), (2, .int l2), (3, .int l3), (4, .int l4), (5, .int l5)] [.int s0, .int s1, .ref (b + s2)] μ := by
  unfold f_X12_readsProtocol_143 at hf
  refine r_cVi hB [.int s1, .int s0] [] cf12 (own := "PulseRemoteModel") rfl cmX12_takesNumber imX12_takesNumber (Or.inl k_1350) (by decide) rfl rfl rfl (Nat.le_of_ble_eq_true rfl) (by decide +kernel : decode cX12_readsProtocol 143 = .ok (.invokevirtual 161, 3)) (fun z hz => m_X12_takesNumber _ _ _ _ hz) rfl hf (fun z143 hf => ?_)
  refine r_istore hB (by decide +kernel : decode cX12_readsProtocol 146 = .ok (.istore 7, 2)) (by decide) rfl ?_
  refine ww_lv (lv' := [(7, .int z143.1), (0, .ref (b + l0)), (1, .int l1), (2, .int l2), (3, .int l3), (4, .int l4), (5, .int l5)]) rfl ?_
  refine r_aload_n hB 1 rfl (by decide +kernel : decode cX12_readsProtocol 148 = .ok (.aload_n 0, 1)) rfl ?_
  refine r_iconst hB (v := 1) (by decide +kernel : decode cX12_readsProtocol 149 = .ok (.iconst 1, 1)) (by decide +kernel) ?_
  refine r_bipush hB (v := 16) (by decide +kernel : decode cX12_readsProtocol 150 = .ok (.bipush 16, 2)) (by decide +kernel) ?_
  refine r_cVi hB [.int 1, .int 16] [] cf12 (own := "PulseRemoteModel") rfl cmX12_takesNumber imX12_takesNumber (Or.inl k_1350) (by decide) rfl rfl rfl (Nat.le_of_ble_eq_true rfl) (by decide +kernel : decode cX12_readsProtocol 152 = .ok (.invokevirtual 161, 3)) (fun z hz => m_X12_takesNumber _ _ _ _ hz) rfl hf (fun z152 hf => ?_)
  refine r_istore hB (by decide +kernel : decode cX12_readsProtocol 155 = .ok (.istore 8, 2)) (by decide) rfl ?_
  refine ww_lv (lv' := [(8, .int z152.1), (7, .int z143.1), (0, .ref (b + l0)), (1, .int l1), (2, .int l2), (3, .int l3), (4, .int l4), (5, .int l5)]) rfl ?_
  refine r_aload_n hB 2 rfl (by decide +kernel : decode cX12_readsProtocol 157 = .ok (.aload_n 0, 1)) rfl ?_
  refine r_iconst hB (v := 0) (by decide +kernel : decode cX12_readsProtocol 158 = .ok (.iconst 0, 1)) (by decide +kernel) ?_
  refine r_iconst hB (v := 1) (by decide +kernel : decode cX12_readsProtocol 159 = .ok (.iconst 1, 1)) (by decide +kernel) ?_
  refine r_cVi hB [.int 0, .int 1] [] cf12 (own := "PulseRemoteModel") rfl cmX12_takesNumber imX12_takesNumber (Or.inl k_1350) (by decide) rfl rfl rfl (Nat.le_of_ble_eq_true rfl) (by decide +kernel : decode cX12_readsProtocol 160 = .ok (.invokevirtual 161, 3)) (fun z hz => m_X12_takesNumber _ _ _ _ hz) rfl hf (fun z160 hf => ?_)
  refine r_istore hB (by decide +kernel : decode cX12_readsProtocol 163 = .ok (.istore 9, 2)) (by decide) rfl ?_
  refine ww_lv (lv' := [(9, .int z160.1), (8, .int z152.1), (7, .int z143.1), (0, .ref (b + l0)), (1, .int l1), (2, .int l2), (3, .int l3), (4, .int l4), (5, .int l5)]) rfl ?_
  refine r_aload_n hB 3 rfl (by decide +kernel : decode cX12_readsProtocol 165 = .ok (.aload_n 0, 1)) rfl ?_
  refine r_iconst hB (v := 0) (by decide +kernel : decode cX12_readsProtocol 166 = .ok (.iconst 0, 1)) (by decide +kernel) ?_
  refine r_iconst hB (v := 2) (by decide +kernel : decode cX12_readsProtocol 167 = .ok (.iconst 2, 1)) (by decide +kernel) ?_
  refine r_cVi hB [.int 0, .int 2] [] cf12 (own := "PulseRemoteModel") rfl cmX12_takesNumber imX12_takesNumber (Or.inl k_1350) (by decide) rfl rfl rfl (Nat.le_of_ble_eq_true rfl) (by decide +kernel : decode cX12_readsProtocol 168 = .ok (.invokevirtual 161, 3)) (fun z hz => m_X12_takesNumber _ _ _ _ hz) rfl hf (fun z168 hf => ?_)
  refine r_istore hB (by decide +kernel : decode cX12_readsProtocol 171 = .ok (.istore 10, 2)) (by decide) rfl ?_
  refine ww_lv (lv' := [(10, .int z168.1), (9, .int z160.1), (8, .int z152.1), (7, .int z143.1), (0, .ref (b + l0)), (1, .int l1), (2, .int l2), (3, .int l3), (4, .int l4), (5, .int l5)]) rfl ?_
  refine r_aload_n hB 4 rfl (by decide +kernel : decode cX12_readsProtocol 173 = .ok (.aload_n 0, 1)) rfl ?_
  refine r_gI hB cf12 9 (by decide) (own := "PulseRemoteModel") rfl (Or.inl k_1124) (by decide +kernel) (by decide +kernel : decode cX12_readsProtocol 174 = .ok (.getfield 150, 3)) hf (fun x174 hf => ?_)
  refine r_if_ne hB (tgt := 211) (by decide +kernel : decode cX12_readsProtocol 177 = .ok (.ifCond .ne 34, 3)) (by decide) hf (fun _ hf => ?_) (fun _ hf => ?_)
  · refine r_aload_n hB 4 rfl (by decide +kernel : decode cX12_readsProtocol 180 = .ok (.aload_n 0, 1)) rfl ?_
    refine r_iload_n hB 5 rfl (by decide +kernel : decode cX12_readsProtocol 181 = .ok (.iload_n 1, 1)) rfl ?_
    refine r_iload hB 2 rfl (by decide +kernel : decode cX12_readsProtocol 182 = .ok (.iload 8, 2)) ?_
    refine r_iload hB 1 rfl (by decide +kernel : decode cX12_readsProtocol 184 = .ok (.iload 9, 2)) ?_
    refine r_iload hB 0 rfl (by decide +kernel : decode cX12_readsProtocol 186 = .ok (.iload 10, 2)) ?_
    refine r_cVv hB [.int l1, .int z152.1, .int z160.1, .int z168.1] [] cf12 (own := "PulseRemoteModel") rfl cmX12_addsProtocol imX12_addsProtocol (Or.inl k_1240) (by decide) rfl rfl rfl (Nat.le_of_ble_eq_true rfl) (by decide +kernel : decode cX12_readsProtocol 188 = .ok (.invokevirtual 83, 3)) (fun z hz => m_X12_addsProtocol _ _ _ _ hz) rfl hf (fun z188 hf => ?_)
    refine r_aload_n hB 4 rfl (by decide +kernel : decode cX12_readsProtocol 191 = .ok (.aload_n 0, 1)) rfl ?_
    refine r_aload_n hB 4 rfl (by decide +kernel : decode cX12_readsProtocol 192 = .ok (.aload_n 0, 1)) rfl ?_
    refine r_gR hB cf12 0 (by decide) (own := "PulseRemoteModel") rfl (Or.inl k_1115) (by decide +kernel) (by decide +kernel : decode cX12_readsProtocol 193 = .ok (.getfield 7, 3)) hf (fun x193 hf => ?_)
    refine r_iconst hB (v := 3) (by decide +kernel : decode cX12_readsProtocol 196 = .ok (.iconst 3, 1)) (by decide +kernel) ?_
    refine r_iald hB (by decide +kernel : decode cX12_readsProtocol 197 = .ok (.iaload, 1)) hf (fun x197 hf => ?_)
    refine r_iconst hB (v := 1) (by decide +kernel : decode cX12_readsProtocol 198 = .ok (.iconst 1, 1)) (by decide +kernel) ?_
    refine r_isub hB (by decide +kernel : decode cX12_readsProtocol 199 = .ok (.isub, 1)) ?_
    refine r_iload_n hB 6 rfl (by decide +kernel : decode cX12_readsProtocol 200 = .ok (.iload_n 2, 1)) rfl ?_
    refine r_iload_n hB 7 rfl (by decide +kernel : decode cX12_readsProtocol 201 = .ok (.iload_n 3, 1)) rfl ?_
    refine r_iload hB 8 rfl (by decide +kernel : decode cX12_readsProtocol 202 = .ok (.iload 4, 2)) ?_
    refine r_iload hB 9 rfl (by decide +kernel : decode cX12_readsProtocol 204 = .ok (.iload 5, 2)) ?_
    refine r_iload hB 3 rfl (by decide +kernel : decode cX12_readsProtocol 206 = .ok (.iload 7, 2)) ?_
    refine r_cVv hB [.int (x197 - 1), .int l2, .int l3, .int l4, .int l5, .int z143.1] [] cf12 (own := "PulseRemoteModel") rfl cmX12_setsLengths imX12_setsLengths (Or.inl k_1247) (by decide) rfl rfl rfl (Nat.le_of_ble_eq_true rfl) (by decide +kernel : decode cX12_readsProtocol 208 = .ok (.invokevirtual 87, 3)) (fun z hz => m_X12_setsLengths _ _ _ _ hz) rfl hf (fun z208 hf => ?_)
    obtain rfl := Option.some.inj hf
    obtain ⟨rfl, rfl⟩ := hk
    exact r_vret hB (by decide +kernel : decode cX12_readsProtocol 211 = .ok (.return_, 1))
  · obtain rfl := Option.some.inj hf
    obtain ⟨rfl, rfl⟩ := hk
    exact r_vret hB (by decide +kernel : decode cX12_readsProtocol 211 = .ok (.return_, 1))
set_option maxHeartbeats 4000000 in
set_option maxRecDepth 100000 in
theorem t_X12_readsProtocol_131 {X : BX} {D : va_G} {cy : Nat → ClassId} {b : Nat} {r : Option Value} {μ' : MS} (hB : BB X D cy b yX12_readsProtocol cX12_readsProtocol 11 none rmX12_readsProtocol) {l0 : Nat} {l1 : Int32} {l2 : Int32} {l3 : Int32} {l4 : Int32} {l5 : Int32} {s0 : Int32} {s1 : Nat} {μ : MS} {z : MS} (hf : f_X12_readsProtocol_131 l0 l1 l2 l3 l4 l5 s0 s1 μ = some z) (hk : (fun z : MS => r = none ∧ μ' = z) z) : WW X D cy b r μ' 11 0 0 131 [(0, .ref (b + l0)), (1, .int l1), (2, .int l2), (3, .int l3), (4, .int l4), (5, .int l5)] [.int s0, .ref (b + s1)] μ := by
  unfold f_X12_readsProtocol_131 at hf
  refine r_iload_n hB 1 rfl (by decide +kernel : decode cX12_readsProtocol 131 = .ok (.iload_n 1, 1)) rfl ?_
  refine r_iconst hB (v := 2) (by decide +kernel : decode cX12_readsProtocol 132 = .ok (.iconst 2, 1)) (by decide +kernel) ?_
  refine r_icmp_ne hB (tgt := 140) (by decide +kernel : decode cX12_readsProtocol 133 = .ok (.if_icmp .ne 7, 3)) (by decide) hf (fun _ hf => ?_) (fun _ hf => ?_)
  · refine r_iconst hB (v := 0) (by decide +kernel : decode cX12_readsProtocol 136 = .ok (.iconst 0, 1)) (by decide +kernel) ?_
    refine r_goto hB (tgt := 143) (by decide +kernel : decode cX12_readsProtocol 137 = .ok (.goto 6, 3)) (by decide) ?_
    exact WW.sub [0, 1, 2, 3, 4, 5] rfl (t_X12_readsProtocol_143 hB hf hk)
  · refine r_sipush hB (v := 20000) (by decide +kernel : decode cX12_readsProtocol 140 = .ok (.sipush 20000, 3)) (by decide +kernel) ?_
    exact WW.sub [0, 1, 2, 3, 4, 5] rfl (t_X12_readsProtocol_143 hB hf hk)
set_option maxHeartbeats 4000000 in
set_option maxRecDepth 100000 in
theorem t_X12_readsProtocol_116 {X : BX} {D : va_G} {cy : Nat → ClassId} {b : Nat} {r : Option Value} {μ' : MS} (hB : BB X D cy b yX12_readsProtocol cX12_readsProtocol 11 none rmX12_readsProtocol) {l0 : Nat} {l1 : Int32} {l2 : Int32} {l3 : Int32} {l4 : Int32} {l5 : Int32} {s0 : Int32} {s1 : Nat} {μ : MS} {z : MS} (hf : f_X12_readsProtocol_116 l0 l1 l2 l3 l4 l5 s0 s1 μ = some z) (hk : (fun z : MS => r = none ∧ μ' = z) z) : WW X D cy b r μ' 11 0 0 116 [(0, .ref (b + l0)), (1, .int l1), (2, .int l2), (3, .int l3), (4, .int l4), (5, .int l5)] [.int s0, .ref (b + s1)] μ := by
  unfold f_X12_readsProtocol_116 at hf
  refine r_pZ hB cf12 9 (by decide) (own := "PulseRemoteModel") rfl (Or.inl k_1124) (Or.inl rfl) rfl (by decide +kernel : decode cX12_readsProtocol 116 = .ok (.putfield 150, 3)) hf (fun m116 hf => ?_)
  refine r_aload_n hB 0 rfl (by decide +kernel : decode cX12_readsProtocol 119 = .ok (.aload_n 0, 1)) rfl ?_
  refine r_iload_n hB 1 rfl (by decide +kernel : decode cX12_readsProtocol 120 = .ok (.iload_n 1, 1)) rfl ?_
  refine r_iconst hB (v := 2) (by decide +kernel : decode cX12_readsProtocol 121 = .ok (.iconst 2, 1)) (by decide +kernel) ?_
  refine r_icmp_ne hB (tgt := 129) (by decide +kernel : decode cX12_readsProtocol 122 = .ok (.if_icmp .ne 7, 3)) (by decide) hf (fun _ hf => ?_) (fun _ hf => ?_)
  · refine r_iconst hB (v := 0) (by decide +kernel : decode cX12_readsProtocol 125 = .ok (.iconst 0, 1)) (by decide +kernel) ?_
    refine r_goto hB (tgt := 131) (by decide +kernel : decode cX12_readsProtocol 126 = .ok (.goto 5, 3)) (by decide) ?_
    exact WW.sub [0, 1, 2, 3, 4, 5] rfl (t_X12_readsProtocol_131 hB hf hk)
  · refine r_bipush hB (v := 50) (by decide +kernel : decode cX12_readsProtocol 129 = .ok (.bipush 50, 2)) (by decide +kernel) ?_
    exact WW.sub [0, 1, 2, 3, 4, 5] rfl (t_X12_readsProtocol_131 hB hf hk)
set_option maxHeartbeats 4000000 in
set_option maxRecDepth 100000 in
theorem t_X12_readsProtocol_111 {X : BX} {D : va_G} {cy : Nat → ClassId} {b : Nat} {r : Option Value} {μ' : MS} (hB : BB X D cy b yX12_readsProtocol cX12_readsProtocol 11 none rmX12_readsProtocol) {l0 : Nat} {l1 : Int32} {l2 : Int32} {l3 : Int32} {l4 : Int32} {l5 : Int32} {s0 : Nat} {μ : MS} {z : MS} (hf : f_X12_readsProtocol_111 l0 l1 l2 l3 l4 l5 s0 μ = some z) (hk : (fun z : MS => r = none ∧ μ' = z) z) : WW X D cy b r μ' 11 0 0 111 [(0, .ref (b + l0)), (1, .int l1), (2, .int l2), (3, .int l3), (4, .int l4), (5, .int l5)] [.ref (b + s0)] μ := by
  unfold f_X12_readsProtocol_111 at hf
  refine r_iconst hB (v := 1) (by decide +kernel : decode cX12_readsProtocol 111 = .ok (.iconst 1, 1)) (by decide +kernel) ?_
  refine r_goto hB (tgt := 116) (by decide +kernel : decode cX12_readsProtocol 112 = .ok (.goto 4, 3)) (by decide) ?_
  exact WW.sub [0, 1, 2, 3, 4, 5] rfl (t_X12_readsProtocol_116 hB hf hk)
set_option maxHeartbeats 4000000 in
set_option maxRecDepth 100000 in
theorem t_X12_readsProtocol_96 {X : BX} {D : va_G} {cy : Nat → ClassId} {b : Nat} {r : Option Value} {μ' : MS} (hB : BB X D cy b yX12_readsProtocol cX12_readsProtocol 11 none rmX12_readsProtocol) {l0 : Nat} {l1 : Int32} {l2 : Int32} {l3 : Int32} {l4 : Int32} {l5 : Int32} {s0 : Int32} {μ : MS} {z : MS} (hf : f_X12_readsProtocol_96 l0 l1 l2 l3 l4 l5 s0 μ = some z) (hk : (fun z : MS => r = none ∧ μ' = z) z) : WW X D cy b r μ' 11 0 0 96 [(0, .ref (b + l0)), (1, .int l1), (2, .int l2), (3, .int l3), (4, .int l4), (5, .int l5)] [.int s0] μ := by
  unfold f_X12_readsProtocol_96 at hf
  refine r_istore hB (by decide +kernel : decode cX12_readsProtocol 96 = .ok (.istore 6, 2)) (by decide) rfl ?_
  refine ww_lv (lv' := [(6, .int s0), (0, .ref (b + l0)), (1, .int l1), (2, .int l2), (3, .int l3), (4, .int l4), (5, .int l5)]) rfl ?_
  refine r_aload_n hB 1 rfl (by decide +kernel : decode cX12_readsProtocol 98 = .ok (.aload_n 0, 1)) rfl ?_
  refine r_aload_n hB 1 rfl (by decide +kernel : decode cX12_readsProtocol 99 = .ok (.aload_n 0, 1)) rfl ?_
  refine r_gI hB cf12 9 (by decide) (own := "PulseRemoteModel") rfl (Or.inl k_1124) (by decide +kernel) (by decide +kernel : decode cX12_readsProtocol 100 = .ok (.getfield 150, 3)) hf (fun x100 hf => ?_)
  refine r_if_ne hB (tgt := 111) (by decide +kernel : decode cX12_readsProtocol 103 = .ok (.ifCond .ne 8, 3)) (by decide) hf (fun _ hf => ?_) (fun _ hf => ?_)
  · refine r_iload hB 0 rfl (by decide +kernel : decode cX12_readsProtocol 106 = .ok (.iload 6, 2)) ?_
    refine r_if_eq hB (tgt := 115) (by decide +kernel : decode cX12_readsProtocol 108 = .ok (.ifCond .eq 7, 3)) (by decide) hf (fun _ hf => ?_) (fun _ hf => ?_)
    · refine r_iconst hB (v := 0) (by decide +kernel : decode cX12_readsProtocol 115 = .ok (.iconst 0, 1)) (by decide +kernel) ?_
      exact WW.sub [1, 2, 3, 4, 5, 6] rfl (t_X12_readsProtocol_116 hB hf hk)
    · exact WW.sub [1, 2, 3, 4, 5, 6] rfl (t_X12_readsProtocol_111 hB hf hk)
  · exact WW.sub [1, 2, 3, 4, 5, 6] rfl (t_X12_readsProtocol_111 hB hf hk)
set_option maxHeartbeats 4000000 in
set_option maxRecDepth 100000 in
theorem t_X12_readsProtocol_95 {X : BX} {D : va_G} {cy : Nat → ClassId} {b : Nat} {r : Option Value} {μ' : MS} (hB : BB X D cy b yX12_readsProtocol cX12_readsProtocol 11 none rmX12_readsProtocol) {l0 : Nat} {l1 : Int32} {l2 : Int32} {l3 : Int32} {l4 : Int32} {l5 : Int32} {μ : MS} {z : MS} (hf : f_X12_readsProtocol_95 l0 l1 l2 l3 l4 l5 μ = some z) (hk : (fun z : MS => r = none ∧ μ' = z) z) : WW X D cy b r μ' 11 0 0 95 [(0, .ref (b + l0)), (1, .int l1), (2, .int l2), (3, .int l3), (4, .int l4), (5, .int l5)] [] μ := by
  unfold f_X12_readsProtocol_95 at hf
  refine r_iconst hB (v := 0) (by decide +kernel : decode cX12_readsProtocol 95 = .ok (.iconst 0, 1)) (by decide +kernel) ?_
  exact WW.sub [0, 1, 2, 3, 4, 5] rfl (t_X12_readsProtocol_96 hB hf hk)
set_option maxHeartbeats 4000000 in
set_option maxRecDepth 100000 in
theorem t_X12_readsProtocol_62 {X : BX} {D : va_G} {cy : Nat → ClassId} {b : Nat} {r : Option Value} {μ' : MS} (hB : BB X D cy b yX12_readsProtocol cX12_readsProtocol 11 none rmX12_readsProtocol) {l0 : Nat} {l1 : Int32} {l2 : Int32} {l3 : Int32} {l4 : Int32} {s0 : Int32} {s1 : Int32} {s2 : Nat} {μ : MS} {z : MS} (hf : f_X12_readsProtocol_62 l0 l1 l2 l3 l4 s0 s1 s2 μ = some z) (hk : (fun z : MS => r = none ∧ μ' = z) z) : WW X D cy b r μ' 11 0 0 62 [(0, .ref (b + l0)), (1, .int l1), (2, .int l2), (3, .int l3), (4, .int l4)] [.int s0, .int s1, .ref (b + s2)] μ := by
  unfold f_X12_readsProtocol_62 at hf
  refine r_cVi hB [.int s1, .int s0] [] cf12 (own := "PulseRemoteModel") rfl cmX12_takesNumber imX12_takesNumber (Or.inl k_1350) (by decide) rfl rfl rfl (Nat.le_of_ble_eq_true rfl) (by decide +kernel : decode cX12_readsProtocol 62 = .ok (.invokevirtual 161, 3)) (fun z hz => m_X12_takesNumber _ _ _ _ hz) rfl hf (fun z62 hf => ?_)
  refine r_istore hB (by decide +kernel : decode cX12_readsProtocol 65 = .ok (.istore 5, 2)) (by decide) rfl ?_
  refine ww_lv (lv' := [(5, .int z62.1), (0, .ref (b + l0)), (1, .int l1), (2, .int l2), (3, .int l3), (4, .int l4)]) rfl ?_
  refine r_iload_n hB 2 rfl (by decide +kernel : decode cX12_readsProtocol 67 = .ok (.iload_n 1, 1)) rfl ?_
  refine r_iconst hB (v := 2) (by decide +kernel : decode cX12_readsProtocol 68 = .ok (.iconst 2, 1)) (by decide +kernel) ?_
  refine r_icmp_eq hB (tgt := 95) (by decide +kernel : decode cX12_readsProtocol 69 = .ok (.if_icmp .eq 26, 3)) (by decide) hf (fun _ hf => ?_) (fun _ hf => ?_)
  · exact WW.sub [1, 2, 3, 4, 5, 0] rfl (t_X12_readsProtocol_95 hB hf hk)
  · refine r_aload_n hB 1 rfl (by decide +kernel : decode cX12_readsProtocol 72 = .ok (.aload_n 0, 1)) rfl ?_
    refine r_gI hB cf12 7 (by decide) (own := "PulseRemoteModel") rfl (Or.inl k_1122) (by decide +kernel) (by decide +kernel : decode cX12_readsProtocol 73 = .ok (.getfield 135, 3)) hf (fun x73 hf => ?_)
    refine r_iconst hB (v := 2) (by decide +kernel : decode cX12_readsProtocol 76 = .ok (.iconst 2, 1)) (by decide +kernel) ?_
    refine r_icmp_ne hB (tgt := 95) (by decide +kernel : decode cX12_readsProtocol 77 = .ok (.if_icmp .ne 18, 3)) (by decide) hf (fun _ hf => ?_) (fun _ hf => ?_)
    · refine r_aload_n hB 1 rfl (by decide +kernel : decode cX12_readsProtocol 80 = .ok (.aload_n 0, 1)) rfl ?_
      refine r_gL hB cf12 8 (by decide) (own := "PulseRemoteModel") rfl (Or.inl k_1123) rfl (by decide +kernel : decode cX12_readsProtocol 81 = .ok (.getfield 131, 3)) hf (fun x81 hf => ?_)
      refine r_iload hB 0 rfl (by decide +kernel : decode cX12_readsProtocol 84 = .ok (.iload 5, 2)) ?_
      refine r_i2l hB (by decide +kernel : decode cX12_readsProtocol 86 = .ok (.i2l, 1)) ?_
      refine r_lcmp hB (by decide +kernel : decode cX12_readsProtocol 87 = .ok (.lcmp, 1)) ?_
      refine r_if_ne hB (tgt := 95) (by decide +kernel : decode cX12_readsProtocol 88 = .ok (.ifCond .ne 7, 3)) (by decide) hf (fun _ hf => ?_) (fun _ hf => ?_)
      · refine r_iconst hB (v := 1) (by decide +kernel : decode cX12_readsProtocol 91 = .ok (.iconst 1, 1)) (by decide +kernel) ?_
        refine r_goto hB (tgt := 96) (by decide +kernel : decode cX12_readsProtocol 92 = .ok (.goto 4, 3)) (by decide) ?_
        exact WW.sub [1, 2, 3, 4, 5, 0] rfl (t_X12_readsProtocol_96 hB hf hk)
      · exact WW.sub [1, 2, 3, 4, 5, 0] rfl (t_X12_readsProtocol_95 hB hf hk)
    · exact WW.sub [1, 2, 3, 4, 5, 0] rfl (t_X12_readsProtocol_95 hB hf hk)
set_option maxHeartbeats 4000000 in
set_option maxRecDepth 100000 in
theorem t_X12_readsProtocol_50 {X : BX} {D : va_G} {cy : Nat → ClassId} {b : Nat} {r : Option Value} {μ' : MS} (hB : BB X D cy b yX12_readsProtocol cX12_readsProtocol 11 none rmX12_readsProtocol) {l0 : Nat} {l1 : Int32} {l2 : Int32} {l3 : Int32} {l4 : Int32} {s0 : Int32} {s1 : Nat} {μ : MS} {z : MS} (hf : f_X12_readsProtocol_50 l0 l1 l2 l3 l4 s0 s1 μ = some z) (hk : (fun z : MS => r = none ∧ μ' = z) z) : WW X D cy b r μ' 11 0 0 50 [(0, .ref (b + l0)), (1, .int l1), (2, .int l2), (3, .int l3), (4, .int l4)] [.int s0, .ref (b + s1)] μ := by
  unfold f_X12_readsProtocol_50 at hf
  refine r_iload_n hB 1 rfl (by decide +kernel : decode cX12_readsProtocol 50 = .ok (.iload_n 1, 1)) rfl ?_
  refine r_iconst hB (v := 2) (by decide +kernel : decode cX12_readsProtocol 51 = .ok (.iconst 2, 1)) (by decide +kernel) ?_
  refine r_icmp_ne hB (tgt := 59) (by decide +kernel : decode cX12_readsProtocol 52 = .ok (.if_icmp .ne 7, 3)) (by decide) hf (fun _ hf => ?_) (fun _ hf => ?_)
  · refine r_iconst hB (v := 0) (by decide +kernel : decode cX12_readsProtocol 55 = .ok (.iconst 0, 1)) (by decide +kernel) ?_
    refine r_goto hB (tgt := 62) (by decide +kernel : decode cX12_readsProtocol 56 = .ok (.goto 6, 3)) (by decide) ?_
    exact WW.sub [0, 1, 2, 3, 4] rfl (t_X12_readsProtocol_62 hB hf hk)
  · refine r_sipush hB (v := 20000) (by decide +kernel : decode cX12_readsProtocol 59 = .ok (.sipush 20000, 3)) (by decide +kernel) ?_
    exact WW.sub [0, 1, 2, 3, 4] rfl (t_X12_readsProtocol_62 hB hf hk)
set_option maxHeartbeats 4000000 in
set_option maxRecDepth 100000 in
theorem t_X12_readsProtocol_0 {X : BX} {D : va_G} {cy : Nat → ClassId} {b : Nat} {r : Option Value} {μ' : MS} (hB : BB X D cy b yX12_readsProtocol cX12_readsProtocol 11 none rmX12_readsProtocol) {l0 : Nat} {μ : MS} {z : MS} (hf : f_X12_readsProtocol l0 μ = some z) (hk : (fun z : MS => r = none ∧ μ' = z) z) : WW X D cy b r μ' 11 0 0 0 [(0, .ref (b + l0))] [] μ := by
  unfold f_X12_readsProtocol at hf
  refine r_aload_n hB 0 rfl (by decide +kernel : decode cX12_readsProtocol 0 = .ok (.aload_n 0, 1)) rfl ?_
  refine r_iconst hB (v := 0) (by decide +kernel : decode cX12_readsProtocol 1 = .ok (.iconst 0, 1)) (by decide +kernel) ?_
  refine r_iconst hB (v := 2) (by decide +kernel : decode cX12_readsProtocol 2 = .ok (.iconst 2, 1)) (by decide +kernel) ?_
  refine r_cVi hB [.int 0, .int 2] [] cf12 (own := "PulseRemoteModel") rfl cmX12_takesNumber imX12_takesNumber (Or.inl k_1350) (by decide) rfl rfl rfl (Nat.le_of_ble_eq_true rfl) (by decide +kernel : decode cX12_readsProtocol 3 = .ok (.invokevirtual 161, 3)) (fun z hz => m_X12_takesNumber _ _ _ _ hz) rfl hf (fun z3 hf => ?_)
  refine r_istore_n hB (by decide +kernel : decode cX12_readsProtocol 6 = .ok (.istore_n 1, 1)) rfl (by decide) rfl ?_
  refine ww_lv (lv' := [(1, .int z3.1), (0, .ref (b + l0))]) rfl ?_
  refine r_aload_n hB 1 rfl (by decide +kernel : decode cX12_readsProtocol 7 = .ok (.aload_n 0, 1)) rfl ?_
  refine r_bipush hB (v := 50) (by decide +kernel : decode cX12_readsProtocol 8 = .ok (.bipush 50, 2)) (by decide +kernel) ?_
  refine r_sipush hB (v := 20000) (by decide +kernel : decode cX12_readsProtocol 10 = .ok (.sipush 20000, 3)) (by decide +kernel) ?_
  refine r_cVi hB [.int 50, .int 20000] [] cf12 (own := "PulseRemoteModel") rfl cmX12_takesNumber imX12_takesNumber (Or.inl k_1350) (by decide) rfl rfl rfl (Nat.le_of_ble_eq_true rfl) (by decide +kernel : decode cX12_readsProtocol 13 = .ok (.invokevirtual 161, 3)) (fun z hz => m_X12_takesNumber _ _ _ _ hz) rfl hf (fun z13 hf => ?_)
  refine r_istore_n hB (by decide +kernel : decode cX12_readsProtocol 16 = .ok (.istore_n 2, 1)) rfl (by decide) rfl ?_
  refine ww_lv (lv' := [(2, .int z13.1), (1, .int z3.1), (0, .ref (b + l0))]) rfl ?_
  refine r_aload_n hB 2 rfl (by decide +kernel : decode cX12_readsProtocol 17 = .ok (.aload_n 0, 1)) rfl ?_
  refine r_bipush hB (v := 50) (by decide +kernel : decode cX12_readsProtocol 18 = .ok (.bipush 50, 2)) (by decide +kernel) ?_
  refine r_sipush hB (v := 20000) (by decide +kernel : decode cX12_readsProtocol 20 = .ok (.sipush 20000, 3)) (by decide +kernel) ?_
  refine r_cVi hB [.int 50, .int 20000] [] cf12 (own := "PulseRemoteModel") rfl cmX12_takesNumber imX12_takesNumber (Or.inl k_1350) (by decide) rfl rfl rfl (Nat.le_of_ble_eq_true rfl) (by decide +kernel : decode cX12_readsProtocol 23 = .ok (.invokevirtual 161, 3)) (fun z hz => m_X12_takesNumber _ _ _ _ hz) rfl hf (fun z23 hf => ?_)
  refine r_istore_n hB (by decide +kernel : decode cX12_readsProtocol 26 = .ok (.istore_n 3, 1)) rfl (by decide) rfl ?_
  refine ww_lv (lv' := [(3, .int z23.1), (2, .int z13.1), (1, .int z3.1), (0, .ref (b + l0))]) rfl ?_
  refine r_aload_n hB 3 rfl (by decide +kernel : decode cX12_readsProtocol 27 = .ok (.aload_n 0, 1)) rfl ?_
  refine r_bipush hB (v := 50) (by decide +kernel : decode cX12_readsProtocol 28 = .ok (.bipush 50, 2)) (by decide +kernel) ?_
  refine r_sipush hB (v := 20000) (by decide +kernel : decode cX12_readsProtocol 30 = .ok (.sipush 20000, 3)) (by decide +kernel) ?_
  refine r_cVi hB [.int 50, .int 20000] [] cf12 (own := "PulseRemoteModel") rfl cmX12_takesNumber imX12_takesNumber (Or.inl k_1350) (by decide) rfl rfl rfl (Nat.le_of_ble_eq_true rfl) (by decide +kernel : decode cX12_readsProtocol 33 = .ok (.invokevirtual 161, 3)) (fun z hz => m_X12_takesNumber _ _ _ _ hz) rfl hf (fun z33 hf => ?_)
  refine r_istore hB (by decide +kernel : decode cX12_readsProtocol 36 = .ok (.istore 4, 2)) (by decide) rfl ?_
  refine ww_lv (lv' := [(4, .int z33.1), (3, .int z23.1), (2, .int z13.1), (1, .int z3.1), (0, .ref (b + l0))]) rfl ?_
  refine r_aload_n hB 4 rfl (by decide +kernel : decode cX12_readsProtocol 38 = .ok (.aload_n 0, 1)) rfl ?_
  refine r_iload_n hB 3 rfl (by decide +kernel : decode cX12_readsProtocol 39 = .ok (.iload_n 1, 1)) rfl ?_
  refine r_iconst hB (v := 2) (by decide +kernel : decode cX12_readsProtocol 40 = .ok (.iconst 2, 1)) (by decide +kernel) ?_
  refine r_icmp_ne hB (tgt := 48) (by decide +kernel : decode cX12_readsProtocol 41 = .ok (.if_icmp .ne 7, 3)) (by decide) hf (fun _ hf => ?_) (fun _ hf => ?_)
  · refine r_iconst hB (v := 0) (by decide +kernel : decode cX12_readsProtocol 44 = .ok (.iconst 0, 1)) (by decide +kernel) ?_
    refine r_goto hB (tgt := 50) (by decide +kernel : decode cX12_readsProtocol 45 = .ok (.goto 5, 3)) (by decide) ?_
    exact WW.sub [4, 3, 2, 1, 0] rfl (t_X12_readsProtocol_50 hB hf hk)
  · refine r_bipush hB (v := 50) (by decide +kernel : decode cX12_readsProtocol 48 = .ok (.bipush 50, 2)) (by decide +kernel) ?_
    exact WW.sub [4, 3, 2, 1, 0] rfl (t_X12_readsProtocol_50 hB hf hk)
theorem m_X12_readsProtocol (l : Launch) (D : va_G) (cy : Nat → ClassId) (b : Nat) {l0 : Nat} {μ : MS} {z : MS} (hf : f_X12_readsProtocol l0 μ = some z) : Met l yX12_readsProtocol (.code yX12_readsProtocol cX12_readsProtocol 11 none :: GW) rmX12_readsProtocol (Pw D cy b [.ref (b + l0)] μ) (Qw D cy b (none) (z)) rmX12_readsProtocol.cells rmX12_readsProtocol.slots (fun q => b ≤ q) :=
  met_of (by decide) (Nat.le_of_ble_eq_true rfl) (fun X hB _ => (t_X12_readsProtocol_0 hB hf ⟨rfl, rfl⟩))
-- PulseRemoteModel.readsButton()V
set_option maxHeartbeats 4000000 in
set_option maxRecDepth 100000 in
theorem t_X12_readsButton_107 {X : BX} {D : va_G} {cy : Nat → ClassId} {b : Nat} {r : Option Value} {μ' : MS} (hB : BB X D cy b yX12_readsButton cX12_readsButton 5 none rmX12_readsButton) {l0 : Nat} {l1 : Int32} {l4 : Int32} {s0 : Int32} {s1 : Nat} {μ : MS} {z : MS} (hf : f_X12_readsButton_107 l0 l1 l4 s0 s1 μ = some z) (hk : (fun z : MS => r = none ∧ μ' = z) z) : WW X D cy b r μ' 5 0 0 107 [(0, .ref (b + l0)), (1, .int l1), (4, .int l4)] [.int s0, .ref (b + s1)] μ := by
  unfold f_X12_readsButton_107 at hf
  refine r_cVv hB [.int s0] [] cf12 (own := "PulseRemoteModel") rfl cmX12_takes imX12_takes (Or.inl k_1342) (by decide) rfl rfl rfl (Nat.le_of_ble_eq_true rfl) (by decide +kernel : decode cX12_readsButton 107 = .ok (.invokevirtual 157, 3)) (fun z hz => m_X12_takes _ _ _ _ hz) rfl hf (fun z107 hf => ?_)
  refine r_aload_n hB 0 rfl (by decide +kernel : decode cX12_readsButton 110 = .ok (.aload_n 0, 1)) rfl ?_
  refine r_gI hB cf12 9 (by decide) (own := "PulseRemoteModel") rfl (Or.inl k_1124) (by decide +kernel) (by decide +kernel : decode cX12_readsButton 111 = .ok (.getfield 150, 3)) hf (fun x111 hf => ?_)
  refine r_if_ne hB (tgt := 124) (by decide +kernel : decode cX12_readsButton 114 = .ok (.ifCond .ne 10, 3)) (by decide) hf (fun _ hf => ?_) (fun _ hf => ?_)
  · refine r_aload_n hB 0 rfl (by decide +kernel : decode cX12_readsButton 117 = .ok (.aload_n 0, 1)) rfl ?_
    refine r_iload_n hB 1 rfl (by decide +kernel : decode cX12_readsButton 118 = .ok (.iload_n 1, 1)) rfl ?_
    refine r_iload hB 2 rfl (by decide +kernel : decode cX12_readsButton 119 = .ok (.iload 4, 2)) ?_
    refine r_cVv hB [.int l1, .int l4] [] cf12 (own := "PulseRemoteModel") rfl cmX12_addsButton imX12_addsButton (Or.inl k_1289) (by decide) rfl rfl rfl (Nat.le_of_ble_eq_true rfl) (by decide +kernel : decode cX12_readsButton 121 = .ok (.invokevirtual 112, 3)) (fun z hz => m_X12_addsButton _ _ _ _ hz) rfl hf (fun z121 hf => ?_)
    obtain rfl := Option.some.inj hf
    obtain ⟨rfl, rfl⟩ := hk
    exact r_vret hB (by decide +kernel : decode cX12_readsButton 124 = .ok (.return_, 1))
  · obtain rfl := Option.some.inj hf
    obtain ⟨rfl, rfl⟩ := hk
    exact r_vret hB (by decide +kernel : decode cX12_readsButton 124 = .ok (.return_, 1))
set_option maxHeartbeats 4000000 in
set_option maxRecDepth 100000 in
theorem t_X12_readsButton_106 {X : BX} {D : va_G} {cy : Nat → ClassId} {b : Nat} {r : Option Value} {μ' : MS} (hB : BB X D cy b yX12_readsButton cX12_readsButton 5 none rmX12_readsButton) {l0 : Nat} {l1 : Int32} {l4 : Int32} {s0 : Nat} {μ : MS} {z : MS} (hf : f_X12_readsButton_106 l0 l1 l4 s0 μ = some z) (hk : (fun z : MS => r = none ∧ μ' = z) z) : WW X D cy b r μ' 5 0 0 106 [(0, .ref (b + l0)), (1, .int l1), (4, .int l4)] [.ref (b + s0)] μ := by
  unfold f_X12_readsButton_106 at hf
  refine r_iconst hB (v := 0) (by decide +kernel : decode cX12_readsButton 106 = .ok (.iconst 0, 1)) (by decide +kernel) ?_
  exact WW.sub [0, 1, 2] rfl (t_X12_readsButton_107 hB hf hk)
set_option maxHeartbeats 4000000 in
set_option maxRecDepth 100000 in
theorem t_X12_readsButton_83 {X : BX} {D : va_G} {cy : Nat → ClassId} {b : Nat} {r : Option Value} {μ' : MS} (hB : BB X D cy b yX12_readsButton cX12_readsButton 5 none rmX12_readsButton) {l0 : Nat} {l1 : Int32} {l3 : Int32} {s0 : Int32} {μ : MS} {z : MS} (hf : f_X12_readsButton_83 l0 l1 l3 s0 μ = some z) (hk : (fun z : MS => r = none ∧ μ' = z) z) : WW X D cy b r μ' 5 0 0 83 [(0, .ref (b + l0)), (1, .int l1), (3, .int l3)] [.int s0] μ := by
  unfold f_X12_readsButton_83 at hf
  refine r_istore hB (by decide +kernel : decode cX12_readsButton 83 = .ok (.istore 4, 2)) (by decide) rfl ?_
  refine ww_lv (lv' := [(4, .int s0), (0, .ref (b + l0)), (1, .int l1), (3, .int l3)]) rfl ?_
  refine r_aload_n hB 1 rfl (by decide +kernel : decode cX12_readsButton 85 = .ok (.aload_n 0, 1)) rfl ?_
  refine r_iload_n hB 3 rfl (by decide +kernel : decode cX12_readsButton 86 = .ok (.iload_n 3, 1)) rfl ?_
  refine r_if_eq hB (tgt := 106) (by decide +kernel : decode cX12_readsButton 87 = .ok (.ifCond .eq 19, 3)) (by decide) hf (fun _ hf => ?_) (fun _ hf => ?_)
  · exact WW.sub [1, 2, 0] rfl (t_X12_readsButton_106 hB hf hk)
  · refine r_aload_n hB 1 rfl (by decide +kernel : decode cX12_readsButton 90 = .ok (.aload_n 0, 1)) rfl ?_
    refine r_iload_n hB 2 rfl (by decide +kernel : decode cX12_readsButton 91 = .ok (.iload_n 1, 1)) rfl ?_
    refine r_iload hB 0 rfl (by decide +kernel : decode cX12_readsButton 92 = .ok (.iload 4, 2)) ?_
    refine r_cVi hB [.int l1, .int s0] [.ref (b + l0)] cf12 (own := "PulseRemoteModel") rfl cmX12_buttonOf imX12_buttonOf (Or.inl k_1285) (by decide) rfl rfl rfl (Nat.le_of_ble_eq_true rfl) (by decide +kernel : decode cX12_readsButton 94 = .ok (.invokevirtual 109, 3)) (fun z hz => m_X12_buttonOf _ _ _ _ hz) rfl hf (fun z94 hf => ?_)
    refine r_bipush hB (v := (-9)) (by decide +kernel : decode cX12_readsButton 97 = .ok (.bipush (-9), 2)) (by decide +kernel) ?_
    refine r_icmp_ne hB (tgt := 106) (by decide +kernel : decode cX12_readsButton 99 = .ok (.if_icmp .ne 7, 3)) (by decide) hf (fun _ hf => ?_) (fun _ hf => ?_)
    · refine r_iconst hB (v := 1) (by decide +kernel : decode cX12_readsButton 102 = .ok (.iconst 1, 1)) (by decide +kernel) ?_
      refine r_goto hB (tgt := 107) (by decide +kernel : decode cX12_readsButton 103 = .ok (.goto 4, 3)) (by decide) ?_
      exact WW.sub [1, 2, 0] rfl (t_X12_readsButton_107 hB hf hk)
    · exact WW.sub [1, 2, 0] rfl (t_X12_readsButton_106 hB hf hk)
set_option maxHeartbeats 4000000 in
set_option maxRecDepth 100000 in
theorem t_X12_readsButton_68 {X : BX} {D : va_G} {cy : Nat → ClassId} {b : Nat} {r : Option Value} {μ' : MS} (hB : BB X D cy b yX12_readsButton cX12_readsButton 5 none rmX12_readsButton) {l0 : Nat} {l1 : Int32} {l2 : Int32} {s0 : Int32} {μ : MS} {z : MS} (hf : f_X12_readsButton_68 l0 l1 l2 s0 μ = some z) (hk : (fun z : MS => r = none ∧ μ' = z) z) : WW X D cy b r μ' 5 0 0 68 [(0, .ref (b + l0)), (1, .int l1), (2, .int l2)] [.int s0] μ := by
  unfold f_X12_readsButton_68 at hf
  refine r_istore_n hB (by decide +kernel : decode cX12_readsButton 68 = .ok (.istore_n 3, 1)) rfl (by decide) rfl ?_
  refine ww_lv (lv' := [(3, .int s0), (0, .ref (b + l0)), (1, .int l1), (2, .int l2)]) rfl ?_
  refine r_iload_n hB 0 rfl (by decide +kernel : decode cX12_readsButton 69 = .ok (.iload_n 3, 1)) rfl ?_
  refine r_if_eq hB (tgt := 82) (by decide +kernel : decode cX12_readsButton 70 = .ok (.ifCond .eq 12, 3)) (by decide) hf (fun _ hf => ?_) (fun _ hf => ?_)
  · refine r_iconst hB (v := 0) (by decide +kernel : decode cX12_readsButton 82 = .ok (.iconst 0, 1)) (by decide +kernel) ?_
    exact WW.sub [1, 2, 0] rfl (t_X12_readsButton_83 hB hf hk)
  · refine r_aload_n hB 1 rfl (by decide +kernel : decode cX12_readsButton 73 = .ok (.aload_n 0, 1)) rfl ?_
    refine r_iload_n hB 2 rfl (by decide +kernel : decode cX12_readsButton 74 = .ok (.iload_n 1, 1)) rfl ?_
    refine r_iload_n hB 3 rfl (by decide +kernel : decode cX12_readsButton 75 = .ok (.iload_n 2, 1)) rfl ?_
    refine r_cVi hB [.int l1, .int l2] [] cf12 (own := "PulseRemoteModel") rfl cmX12_identity imX12_identity (Or.inl k_1281) (by decide) rfl rfl rfl (Nat.le_of_ble_eq_true rfl) (by decide +kernel : decode cX12_readsButton 76 = .ok (.invokevirtual 105, 3)) (fun z hz => m_X12_identity _ _ _ _ hz) rfl hf (fun z76 hf => ?_)
    refine r_goto hB (tgt := 83) (by decide +kernel : decode cX12_readsButton 79 = .ok (.goto 4, 3)) (by decide) ?_
    exact WW.sub [1, 2, 0] rfl (t_X12_readsButton_83 hB hf hk)
set_option maxHeartbeats 4000000 in
set_option maxRecDepth 100000 in
theorem t_X12_readsButton_67 {X : BX} {D : va_G} {cy : Nat → ClassId} {b : Nat} {r : Option Value} {μ' : MS} (hB : BB X D cy b yX12_readsButton cX12_readsButton 5 none rmX12_readsButton) {l0 : Nat} {l1 : Int32} {l2 : Int32} {μ : MS} {z : MS} (hf : f_X12_readsButton_67 l0 l1 l2 μ = some z) (hk : (fun z : MS => r = none ∧ μ' = z) z) : WW X D cy b r μ' 5 0 0 67 [(0, .ref (b + l0)), (1, .int l1), (2, .int l2)] [] μ := by
  unfold f_X12_readsButton_67 at hf
  refine r_iconst hB (v := 0) (by decide +kernel : decode cX12_readsButton 67 = .ok (.iconst 0, 1)) (by decide +kernel) ?_
  exact WW.sub [0, 1, 2] rfl (t_X12_readsButton_68 hB hf hk)
set_option maxHeartbeats 4000000 in
set_option maxRecDepth 100000 in
theorem t_X12_readsButton_49 {X : BX} {D : va_G} {cy : Nat → ClassId} {b : Nat} {r : Option Value} {μ' : MS} (hB : BB X D cy b yX12_readsButton cX12_readsButton 5 none rmX12_readsButton) {l0 : Nat} {l1 : Int32} {s0 : Int32} {μ : MS} {z : MS} (hf : f_X12_readsButton_49 l0 l1 s0 μ = some z) (hk : (fun z : MS => r = none ∧ μ' = z) z) : WW X D cy b r μ' 5 0 0 49 [(0, .ref (b + l0)), (1, .int l1)] [.int s0] μ := by
  unfold f_X12_readsButton_49 at hf
  refine r_istore_n hB (by decide +kernel : decode cX12_readsButton 49 = .ok (.istore_n 2, 1)) rfl (by decide) rfl ?_
  refine ww_lv (lv' := [(2, .int s0), (0, .ref (b + l0)), (1, .int l1)]) rfl ?_
  refine r_iload_n hB 0 rfl (by decide +kernel : decode cX12_readsButton 50 = .ok (.iload_n 2, 1)) rfl ?_
  refine r_if_lt hB (tgt := 67) (by decide +kernel : decode cX12_readsButton 51 = .ok (.ifCond .lt 16, 3)) (by decide) hf (fun _ hf => ?_) (fun _ hf => ?_)
  · exact WW.sub [1, 2, 0] rfl (t_X12_readsButton_67 hB hf hk)
  · refine r_aload_n hB 1 rfl (by decide +kernel : decode cX12_readsButton 54 = .ok (.aload_n 0, 1)) rfl ?_
    refine r_iload_n hB 2 rfl (by decide +kernel : decode cX12_readsButton 55 = .ok (.iload_n 1, 1)) rfl ?_
    refine r_iload_n hB 0 rfl (by decide +kernel : decode cX12_readsButton 56 = .ok (.iload_n 2, 1)) rfl ?_
    refine r_cVi hB [.int l1, .int s0] [] cf12 (own := "PulseRemoteModel") rfl cmX12_isCode imX12_isCode (Or.inl k_1277) (by decide) rfl rfl rfl (Nat.le_of_ble_eq_true rfl) (by decide +kernel : decode cX12_readsButton 57 = .ok (.invokevirtual 101, 3)) (fun z hz => m_X12_isCode _ _ _ _ hz) rfl hf (fun z57 hf => ?_)
    refine r_if_eq hB (tgt := 67) (by decide +kernel : decode cX12_readsButton 60 = .ok (.ifCond .eq 7, 3)) (by decide) hf (fun _ hf => ?_) (fun _ hf => ?_)
    · exact WW.sub [1, 2, 0] rfl (t_X12_readsButton_67 hB hf hk)
    · refine r_iconst hB (v := 1) (by decide +kernel : decode cX12_readsButton 63 = .ok (.iconst 1, 1)) (by decide +kernel) ?_
      refine r_goto hB (tgt := 68) (by decide +kernel : decode cX12_readsButton 64 = .ok (.goto 4, 3)) (by decide) ?_
      exact WW.sub [1, 2, 0] rfl (t_X12_readsButton_68 hB hf hk)
set_option maxHeartbeats 4000000 in
set_option maxRecDepth 100000 in
theorem t_X12_readsButton_48 {X : BX} {D : va_G} {cy : Nat → ClassId} {b : Nat} {r : Option Value} {μ' : MS} (hB : BB X D cy b yX12_readsButton cX12_readsButton 5 none rmX12_readsButton) {l0 : Nat} {l1 : Int32} {μ : MS} {z : MS} (hf : f_X12_readsButton_48 l0 l1 μ = some z) (hk : (fun z : MS => r = none ∧ μ' = z) z) : WW X D cy b r μ' 5 0 0 48 [(0, .ref (b + l0)), (1, .int l1)] [] μ := by
  unfold f_X12_readsButton_48 at hf
  refine r_iconst hB (v := (-1)) (by decide +kernel : decode cX12_readsButton 48 = .ok (.iconst (-1), 1)) (by decide +kernel) ?_
  exact WW.sub [0, 1] rfl (t_X12_readsButton_49 hB hf hk)
set_option maxHeartbeats 4000000 in
set_option maxRecDepth 100000 in
theorem t_X12_readsButton_0 {X : BX} {D : va_G} {cy : Nat → ClassId} {b : Nat} {r : Option Value} {μ' : MS} (hB : BB X D cy b yX12_readsButton cX12_readsButton 5 none rmX12_readsButton) {l0 : Nat} {μ : MS} {z : MS} (hf : f_X12_readsButton l0 μ = some z) (hk : (fun z : MS => r = none ∧ μ' = z) z) : WW X D cy b r μ' 5 0 0 0 [(0, .ref (b + l0))] [] μ := by
  unfold f_X12_readsButton at hf
  refine r_aload_n hB 0 rfl (by decide +kernel : decode cX12_readsButton 0 = .ok (.aload_n 0, 1)) rfl ?_
  refine r_iconst hB (v := 0) (by decide +kernel : decode cX12_readsButton 1 = .ok (.iconst 0, 1)) (by decide +kernel) ?_
  refine r_aload_n hB 0 rfl (by decide +kernel : decode cX12_readsButton 2 = .ok (.aload_n 0, 1)) rfl ?_
  refine r_gR hB cf12 0 (by decide) (own := "PulseRemoteModel") rfl (Or.inl k_1115) (by decide +kernel) (by decide +kernel : decode cX12_readsButton 3 = .ok (.getfield 7, 3)) hf (fun x3 hf => ?_)
  refine r_iconst hB (v := 3) (by decide +kernel : decode cX12_readsButton 6 = .ok (.iconst 3, 1)) (by decide +kernel) ?_
  refine r_iald hB (by decide +kernel : decode cX12_readsButton 7 = .ok (.iaload, 1)) hf (fun x7 hf => ?_)
  refine r_iconst hB (v := 1) (by decide +kernel : decode cX12_readsButton 8 = .ok (.iconst 1, 1)) (by decide +kernel) ?_
  refine r_isub hB (by decide +kernel : decode cX12_readsButton 9 = .ok (.isub, 1)) ?_
  refine r_cVi hB [.int 0, .int (x7 - 1)] [] cf12 (own := "PulseRemoteModel") rfl cmX12_takesNumber imX12_takesNumber (Or.inl k_1350) (by decide) rfl rfl rfl (Nat.le_of_ble_eq_true rfl) (by decide +kernel : decode cX12_readsButton 10 = .ok (.invokevirtual 161, 3)) (fun z hz => m_X12_takesNumber _ _ _ _ hz) rfl hf (fun z10 hf => ?_)
  refine r_istore_n hB (by decide +kernel : decode cX12_readsButton 13 = .ok (.istore_n 1, 1)) rfl (by decide) rfl ?_
  refine ww_lv (lv' := [(1, .int z10.1), (0, .ref (b + l0))]) rfl ?_
  refine r_aload_n hB 1 rfl (by decide +kernel : decode cX12_readsButton 14 = .ok (.aload_n 0, 1)) rfl ?_
  refine r_gI hB cf12 9 (by decide) (own := "PulseRemoteModel") rfl (Or.inl k_1124) (by decide +kernel) (by decide +kernel : decode cX12_readsButton 15 = .ok (.getfield 150, 3)) hf (fun x15 hf => ?_)
  refine r_if_ne hB (tgt := 48) (by decide +kernel : decode cX12_readsButton 18 = .ok (.ifCond .ne 30, 3)) (by decide) hf (fun _ hf => ?_) (fun _ hf => ?_)
  · refine r_aload_n hB 1 rfl (by decide +kernel : decode cX12_readsButton 21 = .ok (.aload_n 0, 1)) rfl ?_
    refine r_gI hB cf12 7 (by decide) (own := "PulseRemoteModel") rfl (Or.inl k_1122) (by decide +kernel) (by decide +kernel : decode cX12_readsButton 22 = .ok (.getfield 135, 3)) hf (fun x22 hf => ?_)
    refine r_iconst hB (v := 2) (by decide +kernel : decode cX12_readsButton 25 = .ok (.iconst 2, 1)) (by decide +kernel) ?_
    refine r_icmp_ne hB (tgt := 48) (by decide +kernel : decode cX12_readsButton 26 = .ok (.if_icmp .ne 22, 3)) (by decide) hf (fun _ hf => ?_) (fun _ hf => ?_)
    · refine r_aload_n hB 1 rfl (by decide +kernel : decode cX12_readsButton 29 = .ok (.aload_n 0, 1)) rfl ?_
      refine r_gL hB cf12 8 (by decide) (own := "PulseRemoteModel") rfl (Or.inl k_1123) rfl (by decide +kernel : decode cX12_readsButton 30 = .ok (.getfield 131, 3)) hf (fun x30 hf => ?_)
      refine r_ldc2 hB (v := 65536) (own := "PulseRemoteModel") rfl k_1358 (by decide +kernel : decode cX12_readsButton 33 = .ok (.ldc2_w 164, 3)) ?_
      refine r_lcmp hB (by decide +kernel : decode cX12_readsButton 36 = .ok (.lcmp, 1)) ?_
      refine r_if_ge hB (tgt := 48) (by decide +kernel : decode cX12_readsButton 37 = .ok (.ifCond .ge 11, 3)) (by decide) hf (fun _ hf => ?_) (fun _ hf => ?_)
      · exact WW.sub [1, 0] rfl (t_X12_readsButton_48 hB hf hk)
      · refine r_aload_n hB 1 rfl (by decide +kernel : decode cX12_readsButton 40 = .ok (.aload_n 0, 1)) rfl ?_
        refine r_gL hB cf12 8 (by decide) (own := "PulseRemoteModel") rfl (Or.inl k_1123) rfl (by decide +kernel : decode cX12_readsButton 41 = .ok (.getfield 131, 3)) hf (fun x41 hf => ?_)
        refine r_l2i hB (by decide +kernel : decode cX12_readsButton 44 = .ok (.l2i, 1)) ?_
        refine r_goto hB (tgt := 49) (by decide +kernel : decode cX12_readsButton 45 = .ok (.goto 4, 3)) (by decide) ?_
        exact WW.sub [1, 0] rfl (t_X12_readsButton_49 hB hf hk)
    · exact WW.sub [1, 0] rfl (t_X12_readsButton_48 hB hf hk)
  · exact WW.sub [1, 0] rfl (t_X12_readsButton_48 hB hf hk)
theorem m_X12_readsButton (l : Launch) (D : va_G) (cy : Nat → ClassId) (b : Nat) {l0 : Nat} {μ : MS} {z : MS} (hf : f_X12_readsButton l0 μ = some z) : Met l yX12_readsButton (.code yX12_readsButton cX12_readsButton 5 none :: GW) rmX12_readsButton (Pw D cy b [.ref (b + l0)] μ) (Qw D cy b (none) (z)) rmX12_readsButton.cells rmX12_readsButton.slots (fun q => b ≤ q) :=
  met_of (by decide) (Nat.le_of_ble_eq_true rfl) (fun X hB _ => (t_X12_readsButton_0 hB hf ⟨rfl, rfl⟩))
-- PulseRemoteModel.exchanges()V
set_option maxHeartbeats 4000000 in
set_option maxRecDepth 100000 in
theorem t_X12_exchanges_41 {X : BX} {D : va_G} {cy : Nat → ClassId} {b : Nat} {r : Option Value} {μ' : MS} (hB : BB X D cy b yX12_exchanges cX12_exchanges 3 none rmX12_exchanges)  {μ : MS} {z : MS} (hf : f_X12_exchanges_41  μ = some z) (hk : (fun z : MS => r = none ∧ μ' = z) z) : WW X D cy b r μ' 3 0 0 41 [] [] μ := by
  unfold f_X12_exchanges_41 at hf
  obtain rfl := Option.some.inj hf
  obtain ⟨rfl, rfl⟩ := hk
  exact r_vret hB (by decide +kernel : decode cX12_exchanges 41 = .ok (.return_, 1))
set_option maxHeartbeats 4000000 in
set_option maxRecDepth 100000 in
theorem t_X12_exchanges_2_b {X : BX} {D : va_G} {cy : Nat → ClassId} {b : Nat} {r : Option Value} {μ' : MS} (hB : BB X D cy b yX12_exchanges cX12_exchanges 3 none rmX12_exchanges) {l0 : Nat} {l1 : Int32} {μ : MS} {z : ((Nat × Int32 × MS) ⊕ MS)} (hf : f_X12_exchanges_2_b l0 l1 μ = some z) (hk : (Sum.elim (fun s : Nat × Int32 × MS => WW X D cy b r μ' 3 0 0 2 [(0, .ref (b + s.1)), (1, .int s.2.1)] [] s.2.2) (fun z : MS => r = none ∧ μ' = z)) z) : WW X D cy b r μ' 3 0 0 2 [(0, .ref (b + l0)), (1, .int l1)] [] μ := by
  unfold f_X12_exchanges_2_b at hf
  refine r_iload_n hB 1 rfl (by decide +kernel : decode cX12_exchanges 2 = .ok (.iload_n 1, 1)) rfl ?_
  refine r_sipush hB (v := 686) (by decide +kernel : decode cX12_exchanges 3 = .ok (.sipush 686, 3)) (by decide +kernel) ?_
  refine r_icmp_ge hB (tgt := 41) (by decide +kernel : decode cX12_exchanges 6 = .ok (.if_icmp .ge 35, 3)) (by decide) hf (fun _ hf => ?_) (fun _ hf => ?_)
  · obtain ⟨_, hx0, rfl⟩ := xr_inv hf
    exact WW.sub [] rfl (t_X12_exchanges_41 hB hx0 hk)
  · refine r_aload_n hB 0 rfl (by decide +kernel : decode cX12_exchanges 9 = .ok (.aload_n 0, 1)) rfl ?_
    refine r_gR hB cf12 0 (by decide) (own := "PulseRemoteModel") rfl (Or.inl k_1115) (by decide +kernel) (by decide +kernel : decode cX12_exchanges 10 = .ok (.getfield 7, 3)) hf (fun x10 hf => ?_)
    refine r_iload_n hB 1 rfl (by decide +kernel : decode cX12_exchanges 13 = .ok (.iload_n 1, 1)) rfl ?_
    refine r_iald hB (by decide +kernel : decode cX12_exchanges 14 = .ok (.iaload, 1)) hf (fun x14 hf => ?_)
    refine r_istore_n hB (by decide +kernel : decode cX12_exchanges 15 = .ok (.istore_n 2, 1)) rfl (by decide) rfl ?_
    refine ww_lv (lv' := [(2, .int x14), (0, .ref (b + l0)), (1, .int l1)]) rfl ?_
    refine r_aload_n hB 1 rfl (by decide +kernel : decode cX12_exchanges 16 = .ok (.aload_n 0, 1)) rfl ?_
    refine r_gR hB cf12 0 (by decide) (own := "PulseRemoteModel") rfl (Or.inl k_1115) (by decide +kernel) (by decide +kernel : decode cX12_exchanges 17 = .ok (.getfield 7, 3)) hf (fun x17 hf => ?_)
    refine r_iload_n hB 2 rfl (by decide +kernel : decode cX12_exchanges 20 = .ok (.iload_n 1, 1)) rfl ?_
    refine r_aload_n hB 1 rfl (by decide +kernel : decode cX12_exchanges 21 = .ok (.aload_n 0, 1)) rfl ?_
    refine r_gR hB cf12 10 (by decide) (own := "PulseRemoteModel") rfl (Or.inl k_1125) (by decide +kernel) (by decide +kernel : decode cX12_exchanges 22 = .ok (.getfield 20, 3)) hf (fun x22 hf => ?_)
    refine r_iload_n hB 2 rfl (by decide +kernel : decode cX12_exchanges 25 = .ok (.iload_n 1, 1)) rfl ?_
    refine r_iald hB (by decide +kernel : decode cX12_exchanges 26 = .ok (.iaload, 1)) hf (fun x26 hf => ?_)
    refine r_iast hB (by decide +kernel : decode cX12_exchanges 27 = .ok (.iastore, 1)) hf (fun m27 hf => ?_)
    refine r_aload_n hB 1 rfl (by decide +kernel : decode cX12_exchanges 28 = .ok (.aload_n 0, 1)) rfl ?_
    refine r_gR hB cf12 10 (by decide) (own := "PulseRemoteModel") rfl (Or.inl k_1125) (by decide +kernel) (by decide +kernel : decode cX12_exchanges 29 = .ok (.getfield 20, 3)) hf (fun x29 hf => ?_)
    refine r_iload_n hB 2 rfl (by decide +kernel : decode cX12_exchanges 32 = .ok (.iload_n 1, 1)) rfl ?_
    refine r_iload_n hB 0 rfl (by decide +kernel : decode cX12_exchanges 33 = .ok (.iload_n 2, 1)) rfl ?_
    refine r_iast hB (by decide +kernel : decode cX12_exchanges 34 = .ok (.iastore, 1)) hf (fun m34 hf => ?_)
    refine r_iincB hB 2 rfl (by decide +kernel : decode cX12_exchanges 35 = .ok (.iinc 1 1, 3)) (w := 1) (by decide +kernel) (by decide) hf (fun v35 hf => ?_)
    refine ww_lv (lv' := [(1, .int v35), (2, .int x14), (0, .ref (b + l0))]) rfl ?_
    refine r_goto hB (tgt := 2) (by decide +kernel : decode cX12_exchanges 38 = .ok (.goto (-36), 3)) (by decide) ?_
    obtain rfl := Option.some.inj hf
    exact WW.sub [2, 0] rfl hk
set_option maxHeartbeats 4000000 in
set_option maxRecDepth 100000 in
theorem t_X12_exchanges_2 {X : BX} {D : va_G} {cy : Nat → ClassId} {b : Nat} {r : Option Value} {μ' : MS} (hB : BB X D cy b yX12_exchanges cX12_exchanges 3 none rmX12_exchanges) {l0 : Nat} {l1 : Int32} {μ : MS} {z : MS} (hf : f_X12_exchanges_2 l0 l1 μ = some z) (hk : (fun z : MS => r = none ∧ μ' = z) z) : WW X D cy b r μ' 3 0 0 2 [(0, .ref (b + l0)), (1, .int l1)] [] μ :=
  lp_ind (P := fun s : Nat × Int32 × MS => WW X D cy b r μ' 3 0 0 2 [(0, .ref (b + s.1)), (1, .int s.2.1)] [] s.2.2) (Q := (fun z : MS => r = none ∧ μ' = z)) (fun s z hz hk => t_X12_exchanges_2_b hB hz hk) (l0, l1, μ) z hf hk
set_option maxHeartbeats 4000000 in
set_option maxRecDepth 100000 in
theorem t_X12_exchanges_0 {X : BX} {D : va_G} {cy : Nat → ClassId} {b : Nat} {r : Option Value} {μ' : MS} (hB : BB X D cy b yX12_exchanges cX12_exchanges 3 none rmX12_exchanges) {l0 : Nat} {μ : MS} {z : MS} (hf : f_X12_exchanges l0 μ = some z) (hk : (fun z : MS => r = none ∧ μ' = z) z) : WW X D cy b r μ' 3 0 0 0 [(0, .ref (b + l0))] [] μ := by
  unfold f_X12_exchanges at hf
  refine r_iconst hB (v := 0) (by decide +kernel : decode cX12_exchanges 0 = .ok (.iconst 0, 1)) (by decide +kernel) ?_
  refine r_istore_n hB (by decide +kernel : decode cX12_exchanges 1 = .ok (.istore_n 1, 1)) rfl (by decide) rfl ?_
  refine ww_lv (lv' := [(1, .int 0), (0, .ref (b + l0))]) rfl ?_
  exact WW.sub [1, 0] rfl (t_X12_exchanges_2 hB hf hk)
theorem m_X12_exchanges (l : Launch) (D : va_G) (cy : Nat → ClassId) (b : Nat) {l0 : Nat} {μ : MS} {z : MS} (hf : f_X12_exchanges l0 μ = some z) : Met l yX12_exchanges (.code yX12_exchanges cX12_exchanges 3 none :: GW) rmX12_exchanges (Pw D cy b [.ref (b + l0)] μ) (Qw D cy b (none) (z)) rmX12_exchanges.cells rmX12_exchanges.slots (fun q => b ≤ q) :=
  met_of (by decide) (Nat.le_of_ble_eq_true rfl) (fun X hB _ => (t_X12_exchanges_0 hB hf ⟨rfl, rfl⟩))
-- PulseRemoteModel.load()I
set_option maxHeartbeats 4000000 in
set_option maxRecDepth 100000 in
theorem t_X12_load_214 {X : BX} {D : va_G} {cy : Nat → ClassId} {b : Nat} {r : Option Value} {μ' : MS} (hB : BB X D cy b yX12_load cX12_load 4 (some .int) rmX12_load) {l0 : Nat} {l1 : Int32} {μ : MS} {z : (Int32 × MS)} (hf : f_X12_load_214 l0 l1 μ = some z) (hk : (fun z : Int32 × MS => r = some (.int z.1) ∧ μ' = z.2) z) : WW X D cy b r μ' 4 0 0 214 [(0, .ref (b + l0)), (1, .int l1)] [] μ := by
  unfold f_X12_load_214 at hf
  refine r_aload_n hB 0 rfl (by decide +kernel : decode cX12_load 214 = .ok (.aload_n 0, 1)) rfl ?_
  refine r_cVv hB [] [] cf12 (own := "PulseRemoteModel") rfl cmX12_exchanges imX12_exchanges (Or.inl k_1359) (by decide) rfl rfl rfl (Nat.le_of_ble_eq_true rfl) (by decide +kernel : decode cX12_load 215 = .ok (.invokevirtual 176, 3)) (fun z hz => m_X12_exchanges _ _ _ _ hz) rfl hf (fun z215 hf => ?_)
  refine r_aload_n hB 0 rfl (by decide +kernel : decode cX12_load 218 = .ok (.aload_n 0, 1)) rfl ?_
  refine r_gI hB cf12 9 (by decide) (own := "PulseRemoteModel") rfl (Or.inl k_1124) (by decide +kernel) (by decide +kernel : decode cX12_load 219 = .ok (.getfield 150, 3)) hf (fun x219 hf => ?_)
  refine r_if_eq hB (tgt := 233) (by decide +kernel : decode cX12_load 222 = .ok (.ifCond .eq 11, 3)) (by decide) hf (fun _ hf => ?_) (fun _ hf => ?_)
  · refine r_aload_n hB 0 rfl (by decide +kernel : decode cX12_load 233 = .ok (.aload_n 0, 1)) rfl ?_
    refine r_cVv hB [] [] cf12 (own := "PulseRemoteModel") rfl cmX12_note imX12_note (Or.inl k_1236) (by decide) rfl rfl rfl (Nat.le_of_ble_eq_true rfl) (by decide +kernel : decode cX12_load 234 = .ok (.invokevirtual 80, 3)) (fun z hz => m_X12_note _ _ _ _ hz) rfl hf (fun z234 hf => ?_)
    refine r_aload_n hB 0 rfl (by decide +kernel : decode cX12_load 237 = .ok (.aload_n 0, 1)) rfl ?_
    refine r_cVv hB [] [] cf12 (own := "PulseRemoteModel") rfl cmX12_exchanges imX12_exchanges (Or.inl k_1359) (by decide) rfl rfl rfl (Nat.le_of_ble_eq_true rfl) (by decide +kernel : decode cX12_load 238 = .ok (.invokevirtual 176, 3)) (fun z hz => m_X12_exchanges _ _ _ _ hz) rfl hf (fun z238 hf => ?_)
    refine r_aload_n hB 0 rfl (by decide +kernel : decode cX12_load 241 = .ok (.aload_n 0, 1)) rfl ?_
    refine r_iconst hB (v := 0) (by decide +kernel : decode cX12_load 242 = .ok (.iconst 0, 1)) (by decide +kernel) ?_
    refine r_pI hB cf12 4 (by decide) (own := "PulseRemoteModel") rfl (Or.inl k_1119) (Or.inl rfl) rfl (by decide +kernel : decode cX12_load 243 = .ok (.putfield 98, 3)) hf (fun m243 hf => ?_)
    refine r_iload_n hB 1 rfl (by decide +kernel : decode cX12_load 246 = .ok (.iload_n 1, 1)) rfl ?_
    obtain rfl := Option.some.inj hf
    obtain ⟨rfl, rfl⟩ := hk
    exact r_iret hB (by decide +kernel : decode cX12_load 247 = .ok (.ireturn, 1))
  · refine r_bipush hB (v := (-10)) (by decide +kernel : decode cX12_load 225 = .ok (.bipush (-10), 2)) (by decide +kernel) ?_
    refine r_aload_n hB 0 rfl (by decide +kernel : decode cX12_load 227 = .ok (.aload_n 0, 1)) rfl ?_
    refine r_gI hB cf12 6 (by decide) (own := "PulseRemoteModel") rfl (Or.inl k_1121) (by decide +kernel) (by decide +kernel : decode cX12_load 228 = .ok (.getfield 128, 3)) hf (fun x228 hf => ?_)
    refine r_isub hB (by decide +kernel : decode cX12_load 231 = .ok (.isub, 1)) ?_
    obtain rfl := Option.some.inj hf
    obtain ⟨rfl, rfl⟩ := hk
    exact r_iret hB (by decide +kernel : decode cX12_load 232 = .ok (.ireturn, 1))
set_option maxHeartbeats 4000000 in
set_option maxRecDepth 100000 in
theorem t_X12_load_205 {X : BX} {D : va_G} {cy : Nat → ClassId} {b : Nat} {r : Option Value} {μ' : MS} (hB : BB X D cy b yX12_load cX12_load 4 (some .int) rmX12_load) {l0 : Nat} {l1 : Int32} {s0 : Int32} {s1 : Nat} {μ : MS} {z : ((Nat × Int32 × MS) ⊕ (Int32 × MS))} (hf : f_X12_load_205 l0 l1 s0 s1 μ = some z) (hk : (Sum.elim (fun s : Nat × Int32 × MS => WW X D cy b r μ' 4 0 0 58 [(0, .ref (b + s.1)), (1, .int s.2.1)] [] s.2.2) (fun z : Int32 × MS => r = some (.int z.1) ∧ μ' = z.2)) z) : WW X D cy b r μ' 4 0 0 205 [(0, .ref (b + l0)), (1, .int l1)] [.int s0, .ref (b + s1)] μ := by
  unfold f_X12_load_205 at hf
  refine r_cVv hB [.int s0] [] cf12 (own := "PulseRemoteModel") rfl cmX12_takes imX12_takes (Or.inl k_1342) (by decide) rfl rfl rfl (Nat.le_of_ble_eq_true rfl) (by decide +kernel : decode cX12_load 205 = .ok (.invokevirtual 157, 3)) (fun z hz => m_X12_takes _ _ _ _ hz) rfl hf (fun z205 hf => ?_)
  refine r_iincB hB 1 rfl (by decide +kernel : decode cX12_load 208 = .ok (.iinc 1 1, 3)) (w := 1) (by decide +kernel) (by decide) hf (fun v208 hf => ?_)
  refine ww_lv (lv' := [(1, .int v208), (0, .ref (b + l0))]) rfl ?_
  refine r_goto hB (tgt := 58) (by decide +kernel : decode cX12_load 211 = .ok (.goto (-153), 3)) (by decide) ?_
  obtain rfl := Option.some.inj hf
  exact WW.sub [1, 0] rfl hk
set_option maxHeartbeats 4000000 in
set_option maxRecDepth 100000 in
theorem t_X12_load_191 {X : BX} {D : va_G} {cy : Nat → ClassId} {b : Nat} {r : Option Value} {μ' : MS} (hB : BB X D cy b yX12_load cX12_load 4 (some .int) rmX12_load) {l0 : Nat} {l1 : Int32} {μ : MS} {z : ((Nat × Int32 × MS) ⊕ (Int32 × MS))} (hf : f_X12_load_191 l0 l1 μ = some z) (hk : (Sum.elim (fun s : Nat × Int32 × MS => WW X D cy b r μ' 4 0 0 58 [(0, .ref (b + s.1)), (1, .int s.2.1)] [] s.2.2) (fun z : Int32 × MS => r = some (.int z.1) ∧ μ' = z.2)) z) : WW X D cy b r μ' 4 0 0 191 [(0, .ref (b + l0)), (1, .int l1)] [] μ := by
  unfold f_X12_load_191 at hf
  refine r_aload_n hB 0 rfl (by decide +kernel : decode cX12_load 191 = .ok (.aload_n 0, 1)) rfl ?_
  refine r_aload_n hB 0 rfl (by decide +kernel : decode cX12_load 192 = .ok (.aload_n 0, 1)) rfl ?_
  refine r_gI hB cf12 7 (by decide) (own := "PulseRemoteModel") rfl (Or.inl k_1122) (by decide +kernel) (by decide +kernel : decode cX12_load 193 = .ok (.getfield 135, 3)) hf (fun x193 hf => ?_)
  refine r_iconst hB (v := 3) (by decide +kernel : decode cX12_load 196 = .ok (.iconst 3, 1)) (by decide +kernel) ?_
  refine r_icmp_ne hB (tgt := 204) (by decide +kernel : decode cX12_load 197 = .ok (.if_icmp .ne 7, 3)) (by decide) hf (fun _ hf => ?_) (fun _ hf => ?_)
  · refine r_iconst hB (v := 1) (by decide +kernel : decode cX12_load 200 = .ok (.iconst 1, 1)) (by decide +kernel) ?_
    refine r_goto hB (tgt := 205) (by decide +kernel : decode cX12_load 201 = .ok (.goto 4, 3)) (by decide) ?_
    exact WW.sub [0, 1] rfl (t_X12_load_205 hB hf hk)
  · refine r_iconst hB (v := 0) (by decide +kernel : decode cX12_load 204 = .ok (.iconst 0, 1)) (by decide +kernel) ?_
    exact WW.sub [0, 1] rfl (t_X12_load_205 hB hf hk)
set_option maxHeartbeats 4000000 in
set_option maxRecDepth 100000 in
theorem t_X12_load_180 {X : BX} {D : va_G} {cy : Nat → ClassId} {b : Nat} {r : Option Value} {μ' : MS} (hB : BB X D cy b yX12_load cX12_load 4 (some .int) rmX12_load) {l0 : Nat} {l1 : Int32} {μ : MS} {z : ((Nat × Int32 × MS) ⊕ (Int32 × MS))} (hf : f_X12_load_180 l0 l1 μ = some z) (hk : (Sum.elim (fun s : Nat × Int32 × MS => WW X D cy b r μ' 4 0 0 58 [(0, .ref (b + s.1)), (1, .int s.2.1)] [] s.2.2) (fun z : Int32 × MS => r = some (.int z.1) ∧ μ' = z.2)) z) : WW X D cy b r μ' 4 0 0 180 [(0, .ref (b + l0)), (1, .int l1)] [] μ := by
  unfold f_X12_load_180 at hf
  refine r_aload_n hB 0 rfl (by decide +kernel : decode cX12_load 180 = .ok (.aload_n 0, 1)) rfl ?_
  refine r_gI hB cf12 9 (by decide) (own := "PulseRemoteModel") rfl (Or.inl k_1124) (by decide +kernel) (by decide +kernel : decode cX12_load 181 = .ok (.getfield 150, 3)) hf (fun x181 hf => ?_)
  refine r_if_ne hB (tgt := 191) (by decide +kernel : decode cX12_load 184 = .ok (.ifCond .ne 7, 3)) (by decide) hf (fun _ hf => ?_) (fun _ hf => ?_)
  · refine r_aload_n hB 0 rfl (by decide +kernel : decode cX12_load 187 = .ok (.aload_n 0, 1)) rfl ?_
    refine r_cVv hB [] [] cf12 (own := "PulseRemoteModel") rfl cmX12_readsButton imX12_readsButton (Or.inl k_1354) (by decide) rfl rfl rfl (Nat.le_of_ble_eq_true rfl) (by decide +kernel : decode cX12_load 188 = .ok (.invokevirtual 173, 3)) (fun z hz => m_X12_readsButton _ _ _ _ hz) rfl hf (fun z188 hf => ?_)
    exact WW.sub [0, 1] rfl (t_X12_load_191 hB hf hk)
  · exact WW.sub [0, 1] rfl (t_X12_load_191 hB hf hk)
set_option maxHeartbeats 4000000 in
set_option maxRecDepth 100000 in
theorem t_X12_load_159 {X : BX} {D : va_G} {cy : Nat → ClassId} {b : Nat} {r : Option Value} {μ' : MS} (hB : BB X D cy b yX12_load cX12_load 4 (some .int) rmX12_load) {l0 : Nat} {l1 : Int32} {l2 : Int32} {s0 : Int32} {s1 : Nat} {μ : MS} {z : ((Nat × Int32 × MS) ⊕ (Int32 × MS))} (hf : f_X12_load_159 l0 l1 l2 s0 s1 μ = some z) (hk : (Sum.elim (fun s : Nat × Int32 × MS => WW X D cy b r μ' 4 0 0 58 [(0, .ref (b + s.1)), (1, .int s.2.1)] [] s.2.2) (fun z : Int32 × MS => r = some (.int z.1) ∧ μ' = z.2)) z) : WW X D cy b r μ' 4 0 0 159 [(0, .ref (b + l0)), (1, .int l1), (2, .int l2)] [.int s0, .ref (b + s1)] μ := by
  unfold f_X12_load_159 at hf
  refine r_cVv hB [.int s0] [] cf12 (own := "PulseRemoteModel") rfl cmX12_takes imX12_takes (Or.inl k_1342) (by decide) rfl rfl rfl (Nat.le_of_ble_eq_true rfl) (by decide +kernel : decode cX12_load 159 = .ok (.invokevirtual 157, 3)) (fun z hz => m_X12_takes _ _ _ _ hz) rfl hf (fun z159 hf => ?_)
  refine r_iload_n hB 2 rfl (by decide +kernel : decode cX12_load 162 = .ok (.iload_n 2, 1)) rfl ?_
  refine r_if_eq hB (tgt := 180) (by decide +kernel : decode cX12_load 163 = .ok (.ifCond .eq 17, 3)) (by decide) hf (fun _ hf => ?_) (fun _ hf => ?_)
  · exact WW.sub [0, 1] rfl (t_X12_load_180 hB hf hk)
  · refine r_aload_n hB 0 rfl (by decide +kernel : decode cX12_load 166 = .ok (.aload_n 0, 1)) rfl ?_
    refine r_gI hB cf12 9 (by decide) (own := "PulseRemoteModel") rfl (Or.inl k_1124) (by decide +kernel) (by decide +kernel : decode cX12_load 167 = .ok (.getfield 150, 3)) hf (fun x167 hf => ?_)
    refine r_if_ne hB (tgt := 180) (by decide +kernel : decode cX12_load 170 = .ok (.ifCond .ne 10, 3)) (by decide) hf (fun _ hf => ?_) (fun _ hf => ?_)
    · refine r_aload_n hB 0 rfl (by decide +kernel : decode cX12_load 173 = .ok (.aload_n 0, 1)) rfl ?_
      refine r_cVv hB [] [] cf12 (own := "PulseRemoteModel") rfl cmX12_readsProtocol imX12_readsProtocol (Or.inl k_1346) (by decide) rfl rfl rfl (Nat.le_of_ble_eq_true rfl) (by decide +kernel : decode cX12_load 174 = .ok (.invokevirtual 170, 3)) (fun z hz => m_X12_readsProtocol _ _ _ _ hz) rfl hf (fun z174 hf => ?_)
      refine r_goto hB (tgt := 191) (by decide +kernel : decode cX12_load 177 = .ok (.goto 14, 3)) (by decide) ?_
      exact WW.sub [0, 1] rfl (t_X12_load_191 hB hf hk)
    · exact WW.sub [0, 1] rfl (t_X12_load_180 hB hf hk)
set_option maxHeartbeats 4000000 in
set_option maxRecDepth 100000 in
theorem t_X12_load_158 {X : BX} {D : va_G} {cy : Nat → ClassId} {b : Nat} {r : Option Value} {μ' : MS} (hB : BB X D cy b yX12_load cX12_load 4 (some .int) rmX12_load) {l0 : Nat} {l1 : Int32} {l2 : Int32} {s0 : Nat} {μ : MS} {z : ((Nat × Int32 × MS) ⊕ (Int32 × MS))} (hf : f_X12_load_158 l0 l1 l2 s0 μ = some z) (hk : (Sum.elim (fun s : Nat × Int32 × MS => WW X D cy b r μ' 4 0 0 58 [(0, .ref (b + s.1)), (1, .int s.2.1)] [] s.2.2) (fun z : Int32 × MS => r = some (.int z.1) ∧ μ' = z.2)) z) : WW X D cy b r μ' 4 0 0 158 [(0, .ref (b + l0)), (1, .int l1), (2, .int l2)] [.ref (b + s0)] μ := by
  unfold f_X12_load_158 at hf
  refine r_iconst hB (v := 0) (by decide +kernel : decode cX12_load 158 = .ok (.iconst 0, 1)) (by decide +kernel) ?_
  exact WW.sub [0, 1, 2] rfl (t_X12_load_159 hB hf hk)
set_option maxHeartbeats 4000000 in
set_option maxRecDepth 100000 in
theorem t_X12_load_154 {X : BX} {D : va_G} {cy : Nat → ClassId} {b : Nat} {r : Option Value} {μ' : MS} (hB : BB X D cy b yX12_load cX12_load 4 (some .int) rmX12_load) {l0 : Nat} {l1 : Int32} {l2 : Int32} {s0 : Nat} {μ : MS} {z : ((Nat × Int32 × MS) ⊕ (Int32 × MS))} (hf : f_X12_load_154 l0 l1 l2 s0 μ = some z) (hk : (Sum.elim (fun s : Nat × Int32 × MS => WW X D cy b r μ' 4 0 0 58 [(0, .ref (b + s.1)), (1, .int s.2.1)] [] s.2.2) (fun z : Int32 × MS => r = some (.int z.1) ∧ μ' = z.2)) z) : WW X D cy b r μ' 4 0 0 154 [(0, .ref (b + l0)), (1, .int l1), (2, .int l2)] [.ref (b + s0)] μ := by
  unfold f_X12_load_154 at hf
  refine r_iconst hB (v := 1) (by decide +kernel : decode cX12_load 154 = .ok (.iconst 1, 1)) (by decide +kernel) ?_
  refine r_goto hB (tgt := 159) (by decide +kernel : decode cX12_load 155 = .ok (.goto 4, 3)) (by decide) ?_
  exact WW.sub [0, 1, 2] rfl (t_X12_load_159 hB hf hk)
set_option maxHeartbeats 4000000 in
set_option maxRecDepth 100000 in
theorem t_X12_load_138 {X : BX} {D : va_G} {cy : Nat → ClassId} {b : Nat} {r : Option Value} {μ' : MS} (hB : BB X D cy b yX12_load cX12_load 4 (some .int) rmX12_load) {l0 : Nat} {l1 : Int32} {l2 : Int32} {l3 : Int32} {s0 : Nat} {μ : MS} {z : ((Nat × Int32 × MS) ⊕ (Int32 × MS))} (hf : f_X12_load_138 l0 l1 l2 l3 s0 μ = some z) (hk : (Sum.elim (fun s : Nat × Int32 × MS => WW X D cy b r μ' 4 0 0 58 [(0, .ref (b + s.1)), (1, .int s.2.1)] [] s.2.2) (fun z : Int32 × MS => r = some (.int z.1) ∧ μ' = z.2)) z) : WW X D cy b r μ' 4 0 0 138 [(0, .ref (b + l0)), (1, .int l1), (2, .int l2), (3, .int l3)] [.ref (b + s0)] μ := by
  unfold f_X12_load_138 at hf
  refine r_iload_n hB 3 rfl (by decide +kernel : decode cX12_load 138 = .ok (.iload_n 3, 1)) rfl ?_
  refine r_if_eq hB (tgt := 158) (by decide +kernel : decode cX12_load 139 = .ok (.ifCond .eq 19, 3)) (by decide) hf (fun _ hf => ?_) (fun _ hf => ?_)
  · exact WW.sub [0, 1, 2] rfl (t_X12_load_158 hB hf hk)
  · refine r_aload_n hB 0 rfl (by decide +kernel : decode cX12_load 142 = .ok (.aload_n 0, 1)) rfl ?_
    refine r_gR hB cf12 0 (by decide) (own := "PulseRemoteModel") rfl (Or.inl k_1115) (by decide +kernel) (by decide +kernel : decode cX12_load 143 = .ok (.getfield 7, 3)) hf (fun x143 hf => ?_)
    refine r_bipush hB (v := 58) (by decide +kernel : decode cX12_load 146 = .ok (.bipush 58, 2)) (by decide +kernel) ?_
    refine r_iald hB (by decide +kernel : decode cX12_load 148 = .ok (.iaload, 1)) hf (fun x148 hf => ?_)
    refine r_bipush hB (v := 12) (by decide +kernel : decode cX12_load 149 = .ok (.bipush 12, 2)) (by decide +kernel) ?_
    refine r_icmp_ge hB (tgt := 158) (by decide +kernel : decode cX12_load 151 = .ok (.if_icmp .ge 7, 3)) (by decide) hf (fun _ hf => ?_) (fun _ hf => ?_)
    · exact WW.sub [0, 1, 2] rfl (t_X12_load_158 hB hf hk)
    · exact WW.sub [0, 1, 2] rfl (t_X12_load_154 hB hf hk)
set_option maxHeartbeats 4000000 in
set_option maxRecDepth 100000 in
theorem t_X12_load_121 {X : BX} {D : va_G} {cy : Nat → ClassId} {b : Nat} {r : Option Value} {μ' : MS} (hB : BB X D cy b yX12_load cX12_load 4 (some .int) rmX12_load) {l0 : Nat} {l1 : Int32} {l2 : Int32} {s0 : Int32} {μ : MS} {z : ((Nat × Int32 × MS) ⊕ (Int32 × MS))} (hf : f_X12_load_121 l0 l1 l2 s0 μ = some z) (hk : (Sum.elim (fun s : Nat × Int32 × MS => WW X D cy b r μ' 4 0 0 58 [(0, .ref (b + s.1)), (1, .int s.2.1)] [] s.2.2) (fun z : Int32 × MS => r = some (.int z.1) ∧ μ' = z.2)) z) : WW X D cy b r μ' 4 0 0 121 [(0, .ref (b + l0)), (1, .int l1), (2, .int l2)] [.int s0] μ := by
  unfold f_X12_load_121 at hf
  refine r_istore_n hB (by decide +kernel : decode cX12_load 121 = .ok (.istore_n 3, 1)) rfl (by decide) rfl ?_
  refine ww_lv (lv' := [(3, .int s0), (0, .ref (b + l0)), (1, .int l1), (2, .int l2)]) rfl ?_
  refine r_aload_n hB 1 rfl (by decide +kernel : decode cX12_load 122 = .ok (.aload_n 0, 1)) rfl ?_
  refine r_iload_n hB 3 rfl (by decide +kernel : decode cX12_load 123 = .ok (.iload_n 2, 1)) rfl ?_
  refine r_if_eq hB (tgt := 138) (by decide +kernel : decode cX12_load 124 = .ok (.ifCond .eq 14, 3)) (by decide) hf (fun _ hf => ?_) (fun _ hf => ?_)
  · exact WW.sub [1, 2, 3, 0] rfl (t_X12_load_138 hB hf hk)
  · refine r_aload_n hB 1 rfl (by decide +kernel : decode cX12_load 127 = .ok (.aload_n 0, 1)) rfl ?_
    refine r_gR hB cf12 0 (by decide) (own := "PulseRemoteModel") rfl (Or.inl k_1115) (by decide +kernel) (by decide +kernel : decode cX12_load 128 = .ok (.getfield 7, 3)) hf (fun x128 hf => ?_)
    refine r_iconst hB (v := 3) (by decide +kernel : decode cX12_load 131 = .ok (.iconst 3, 1)) (by decide +kernel) ?_
    refine r_iald hB (by decide +kernel : decode cX12_load 132 = .ok (.iaload, 1)) hf (fun x132 hf => ?_)
    refine r_bipush hB (v := 6) (by decide +kernel : decode cX12_load 133 = .ok (.bipush 6, 2)) (by decide +kernel) ?_
    refine r_icmp_lt hB (tgt := 154) (by decide +kernel : decode cX12_load 135 = .ok (.if_icmp .lt 19, 3)) (by decide) hf (fun _ hf => ?_) (fun _ hf => ?_)
    · exact WW.sub [1, 2, 3] rfl (t_X12_load_154 hB hf hk)
    · exact WW.sub [1, 2, 3, 0] rfl (t_X12_load_138 hB hf hk)
set_option maxHeartbeats 4000000 in
set_option maxRecDepth 100000 in
theorem t_X12_load_120 {X : BX} {D : va_G} {cy : Nat → ClassId} {b : Nat} {r : Option Value} {μ' : MS} (hB : BB X D cy b yX12_load cX12_load 4 (some .int) rmX12_load) {l0 : Nat} {l1 : Int32} {l2 : Int32} {μ : MS} {z : ((Nat × Int32 × MS) ⊕ (Int32 × MS))} (hf : f_X12_load_120 l0 l1 l2 μ = some z) (hk : (Sum.elim (fun s : Nat × Int32 × MS => WW X D cy b r μ' 4 0 0 58 [(0, .ref (b + s.1)), (1, .int s.2.1)] [] s.2.2) (fun z : Int32 × MS => r = some (.int z.1) ∧ μ' = z.2)) z) : WW X D cy b r μ' 4 0 0 120 [(0, .ref (b + l0)), (1, .int l1), (2, .int l2)] [] μ := by
  unfold f_X12_load_120 at hf
  refine r_iconst hB (v := 0) (by decide +kernel : decode cX12_load 120 = .ok (.iconst 0, 1)) (by decide +kernel) ?_
  exact WW.sub [0, 1, 2] rfl (t_X12_load_121 hB hf hk)
set_option maxHeartbeats 4000000 in
set_option maxRecDepth 100000 in
theorem t_X12_load_96 {X : BX} {D : va_G} {cy : Nat → ClassId} {b : Nat} {r : Option Value} {μ' : MS} (hB : BB X D cy b yX12_load cX12_load 4 (some .int) rmX12_load) {l0 : Nat} {l1 : Int32} {s0 : Int32} {μ : MS} {z : ((Nat × Int32 × MS) ⊕ (Int32 × MS))} (hf : f_X12_load_96 l0 l1 s0 μ = some z) (hk : (Sum.elim (fun s : Nat × Int32 × MS => WW X D cy b r μ' 4 0 0 58 [(0, .ref (b + s.1)), (1, .int s.2.1)] [] s.2.2) (fun z : Int32 × MS => r = some (.int z.1) ∧ μ' = z.2)) z) : WW X D cy b r μ' 4 0 0 96 [(0, .ref (b + l0)), (1, .int l1)] [.int s0] μ := by
  unfold f_X12_load_96 at hf
  refine r_istore_n hB (by decide +kernel : decode cX12_load 96 = .ok (.istore_n 2, 1)) rfl (by decide) rfl ?_
  refine ww_lv (lv' := [(2, .int s0), (0, .ref (b + l0)), (1, .int l1)]) rfl ?_
  refine r_aload_n hB 1 rfl (by decide +kernel : decode cX12_load 97 = .ok (.aload_n 0, 1)) rfl ?_
  refine r_gI hB cf12 7 (by decide) (own := "PulseRemoteModel") rfl (Or.inl k_1122) (by decide +kernel) (by decide +kernel : decode cX12_load 98 = .ok (.getfield 135, 3)) hf (fun x98 hf => ?_)
  refine r_iconst hB (v := 1) (by decide +kernel : decode cX12_load 101 = .ok (.iconst 1, 1)) (by decide +kernel) ?_
  refine r_icmp_ne hB (tgt := 120) (by decide +kernel : decode cX12_load 102 = .ok (.if_icmp .ne 18, 3)) (by decide) hf (fun _ hf => ?_) (fun _ hf => ?_)
  · refine r_aload_n hB 1 rfl (by decide +kernel : decode cX12_load 105 = .ok (.aload_n 0, 1)) rfl ?_
    refine r_gL hB cf12 8 (by decide) (own := "PulseRemoteModel") rfl (Or.inl k_1123) rfl (by decide +kernel : decode cX12_load 106 = .ok (.getfield 131, 3)) hf (fun x106 hf => ?_)
    refine r_ldc2 hB (v := 40266734) (own := "PulseRemoteModel") rfl k_1341 (by decide +kernel : decode cX12_load 109 = .ok (.ldc2_w 168, 3)) ?_
    refine r_lcmp hB (by decide +kernel : decode cX12_load 112 = .ok (.lcmp, 1)) ?_
    refine r_if_ne hB (tgt := 120) (by decide +kernel : decode cX12_load 113 = .ok (.ifCond .ne 7, 3)) (by decide) hf (fun _ hf => ?_) (fun _ hf => ?_)
    · refine r_iconst hB (v := 1) (by decide +kernel : decode cX12_load 116 = .ok (.iconst 1, 1)) (by decide +kernel) ?_
      refine r_goto hB (tgt := 121) (by decide +kernel : decode cX12_load 117 = .ok (.goto 4, 3)) (by decide) ?_
      exact WW.sub [1, 2, 0] rfl (t_X12_load_121 hB hf hk)
    · exact WW.sub [1, 2, 0] rfl (t_X12_load_120 hB hf hk)
  · exact WW.sub [1, 2, 0] rfl (t_X12_load_120 hB hf hk)
set_option maxHeartbeats 4000000 in
set_option maxRecDepth 100000 in
theorem t_X12_load_95 {X : BX} {D : va_G} {cy : Nat → ClassId} {b : Nat} {r : Option Value} {μ' : MS} (hB : BB X D cy b yX12_load cX12_load 4 (some .int) rmX12_load) {l0 : Nat} {l1 : Int32} {μ : MS} {z : ((Nat × Int32 × MS) ⊕ (Int32 × MS))} (hf : f_X12_load_95 l0 l1 μ = some z) (hk : (Sum.elim (fun s : Nat × Int32 × MS => WW X D cy b r μ' 4 0 0 58 [(0, .ref (b + s.1)), (1, .int s.2.1)] [] s.2.2) (fun z : Int32 × MS => r = some (.int z.1) ∧ μ' = z.2)) z) : WW X D cy b r μ' 4 0 0 95 [(0, .ref (b + l0)), (1, .int l1)] [] μ := by
  unfold f_X12_load_95 at hf
  refine r_iconst hB (v := 0) (by decide +kernel : decode cX12_load 95 = .ok (.iconst 0, 1)) (by decide +kernel) ?_
  exact WW.sub [0, 1] rfl (t_X12_load_96 hB hf hk)
set_option maxHeartbeats 4000000 in
set_option maxRecDepth 100000 in
theorem t_X12_load_58_b {X : BX} {D : va_G} {cy : Nat → ClassId} {b : Nat} {r : Option Value} {μ' : MS} (hB : BB X D cy b yX12_load cX12_load 4 (some .int) rmX12_load) {l0 : Nat} {l1 : Int32} {μ : MS} {z : ((Nat × Int32 × MS) ⊕ (Int32 × MS))} (hf : f_X12_load_58_b l0 l1 μ = some z) (hk : (Sum.elim (fun s : Nat × Int32 × MS => WW X D cy b r μ' 4 0 0 58 [(0, .ref (b + s.1)), (1, .int s.2.1)] [] s.2.2) (fun z : Int32 × MS => r = some (.int z.1) ∧ μ' = z.2)) z) : WW X D cy b r μ' 4 0 0 58 [(0, .ref (b + l0)), (1, .int l1)] [] μ := by
  unfold f_X12_load_58_b at hf
  refine r_aload_n hB 0 rfl (by decide +kernel : decode cX12_load 58 = .ok (.aload_n 0, 1)) rfl ?_
  refine r_gI hB cf12 9 (by decide) (own := "PulseRemoteModel") rfl (Or.inl k_1124) (by decide +kernel) (by decide +kernel : decode cX12_load 59 = .ok (.getfield 150, 3)) hf (fun x59 hf => ?_)
  refine r_if_ne hB (tgt := 214) (by decide +kernel : decode cX12_load 62 = .ok (.ifCond .ne 152, 3)) (by decide) hf (fun _ hf => ?_) (fun _ hf => ?_)
  · refine r_aload_n hB 0 rfl (by decide +kernel : decode cX12_load 65 = .ok (.aload_n 0, 1)) rfl ?_
    refine r_gI hB cf12 7 (by decide) (own := "PulseRemoteModel") rfl (Or.inl k_1122) (by decide +kernel) (by decide +kernel : decode cX12_load 66 = .ok (.getfield 135, 3)) hf (fun x66 hf => ?_)
    refine r_if_eq hB (tgt := 214) (by decide +kernel : decode cX12_load 69 = .ok (.ifCond .eq 145, 3)) (by decide) hf (fun _ hf => ?_) (fun _ hf => ?_)
    · obtain ⟨_, hx0, rfl⟩ := xr_inv hf
      exact WW.sub [0, 1] rfl (t_X12_load_214 hB hx0 hk)
    · refine r_aload_n hB 0 rfl (by decide +kernel : decode cX12_load 72 = .ok (.aload_n 0, 1)) rfl ?_
      refine r_gI hB cf12 7 (by decide) (own := "PulseRemoteModel") rfl (Or.inl k_1122) (by decide +kernel) (by decide +kernel : decode cX12_load 73 = .ok (.getfield 135, 3)) hf (fun x73 hf => ?_)
      refine r_iconst hB (v := 1) (by decide +kernel : decode cX12_load 76 = .ok (.iconst 1, 1)) (by decide +kernel) ?_
      refine r_icmp_ne hB (tgt := 95) (by decide +kernel : decode cX12_load 77 = .ok (.if_icmp .ne 18, 3)) (by decide) hf (fun _ hf => ?_) (fun _ hf => ?_)
      · refine r_aload_n hB 0 rfl (by decide +kernel : decode cX12_load 80 = .ok (.aload_n 0, 1)) rfl ?_
        refine r_gL hB cf12 8 (by decide) (own := "PulseRemoteModel") rfl (Or.inl k_1123) rfl (by decide +kernel : decode cX12_load 81 = .ok (.getfield 131, 3)) hf (fun x81 hf => ?_)
        refine r_ldc2 hB (v := 8868840) (own := "PulseRemoteModel") rfl k_1340 (by decide +kernel : decode cX12_load 84 = .ok (.ldc2_w 166, 3)) ?_
        refine r_lcmp hB (by decide +kernel : decode cX12_load 87 = .ok (.lcmp, 1)) ?_
        refine r_if_ne hB (tgt := 95) (by decide +kernel : decode cX12_load 88 = .ok (.ifCond .ne 7, 3)) (by decide) hf (fun _ hf => ?_) (fun _ hf => ?_)
        · refine r_iconst hB (v := 1) (by decide +kernel : decode cX12_load 91 = .ok (.iconst 1, 1)) (by decide +kernel) ?_
          refine r_goto hB (tgt := 96) (by decide +kernel : decode cX12_load 92 = .ok (.goto 4, 3)) (by decide) ?_
          exact WW.sub [0, 1] rfl (t_X12_load_96 hB hf hk)
        · exact WW.sub [0, 1] rfl (t_X12_load_95 hB hf hk)
      · exact WW.sub [0, 1] rfl (t_X12_load_95 hB hf hk)
  · obtain ⟨_, hx0, rfl⟩ := xr_inv hf
    exact WW.sub [0, 1] rfl (t_X12_load_214 hB hx0 hk)
set_option maxHeartbeats 4000000 in
set_option maxRecDepth 100000 in
theorem t_X12_load_58 {X : BX} {D : va_G} {cy : Nat → ClassId} {b : Nat} {r : Option Value} {μ' : MS} (hB : BB X D cy b yX12_load cX12_load 4 (some .int) rmX12_load) {l0 : Nat} {l1 : Int32} {μ : MS} {z : (Int32 × MS)} (hf : f_X12_load_58 l0 l1 μ = some z) (hk : (fun z : Int32 × MS => r = some (.int z.1) ∧ μ' = z.2) z) : WW X D cy b r μ' 4 0 0 58 [(0, .ref (b + l0)), (1, .int l1)] [] μ :=
  lp_ind (P := fun s : Nat × Int32 × MS => WW X D cy b r μ' 4 0 0 58 [(0, .ref (b + s.1)), (1, .int s.2.1)] [] s.2.2) (Q := (fun z : Int32 × MS => r = some (.int z.1) ∧ μ' = z.2)) (fun s z hz hk => t_X12_load_58_b hB hz hk) (l0, l1, μ) z hf hk
set_option maxHeartbeats 4000000 in
set_option maxRecDepth 100000 in
theorem t_X12_load_27 {X : BX} {D : va_G} {cy : Nat → ClassId} {b : Nat} {r : Option Value} {μ' : MS} (hB : BB X D cy b yX12_load cX12_load 4 (some .int) rmX12_load) {l0 : Nat} {μ : MS} {z : (Int32 × MS)} (hf : f_X12_load_27 l0 μ = some z) (hk : (fun z : Int32 × MS => r = some (.int z.1) ∧ μ' = z.2) z) : WW X D cy b r μ' 4 0 0 27 [(0, .ref (b + l0))] [] μ := by
  unfold f_X12_load_27 at hf
  refine r_aload_n hB 0 rfl (by decide +kernel : decode cX12_load 27 = .ok (.aload_n 0, 1)) rfl ?_
  refine r_gR hB cf12 0 (by decide) (own := "PulseRemoteModel") rfl (Or.inl k_1115) (by decide +kernel) (by decide +kernel : decode cX12_load 28 = .ok (.getfield 7, 3)) hf (fun x28 hf => ?_)
  refine r_iconst hB (v := 3) (by decide +kernel : decode cX12_load 31 = .ok (.iconst 3, 1)) (by decide +kernel) ?_
  refine r_iconst hB (v := 0) (by decide +kernel : decode cX12_load 32 = .ok (.iconst 0, 1)) (by decide +kernel) ?_
  refine r_iast hB (by decide +kernel : decode cX12_load 33 = .ok (.iastore, 1)) hf (fun m33 hf => ?_)
  refine r_aload_n hB 0 rfl (by decide +kernel : decode cX12_load 34 = .ok (.aload_n 0, 1)) rfl ?_
  refine r_gR hB cf12 0 (by decide) (own := "PulseRemoteModel") rfl (Or.inl k_1115) (by decide +kernel) (by decide +kernel : decode cX12_load 35 = .ok (.getfield 7, 3)) hf (fun x35 hf => ?_)
  refine r_bipush hB (v := 58) (by decide +kernel : decode cX12_load 38 = .ok (.bipush 58, 2)) (by decide +kernel) ?_
  refine r_iconst hB (v := 0) (by decide +kernel : decode cX12_load 40 = .ok (.iconst 0, 1)) (by decide +kernel) ?_
  refine r_iast hB (by decide +kernel : decode cX12_load 41 = .ok (.iastore, 1)) hf (fun m41 hf => ?_)
  refine r_aload_n hB 0 rfl (by decide +kernel : decode cX12_load 42 = .ok (.aload_n 0, 1)) rfl ?_
  refine r_iconst hB (v := 0) (by decide +kernel : decode cX12_load 43 = .ok (.iconst 0, 1)) (by decide +kernel) ?_
  refine r_pI hB cf12 5 (by decide) (own := "PulseRemoteModel") rfl (Or.inl k_1120) (Or.inl rfl) rfl (by decide +kernel : decode cX12_load 44 = .ok (.putfield 121, 3)) hf (fun m44 hf => ?_)
  refine r_aload_n hB 0 rfl (by decide +kernel : decode cX12_load 47 = .ok (.aload_n 0, 1)) rfl ?_
  refine r_iconst hB (v := 0) (by decide +kernel : decode cX12_load 48 = .ok (.iconst 0, 1)) (by decide +kernel) ?_
  refine r_pZ hB cf12 9 (by decide) (own := "PulseRemoteModel") rfl (Or.inl k_1124) (Or.inl rfl) rfl (by decide +kernel : decode cX12_load 49 = .ok (.putfield 150, 3)) hf (fun m49 hf => ?_)
  refine r_iconst hB (v := 0) (by decide +kernel : decode cX12_load 52 = .ok (.iconst 0, 1)) (by decide +kernel) ?_
  refine r_istore_n hB (by decide +kernel : decode cX12_load 53 = .ok (.istore_n 1, 1)) rfl (by decide) rfl ?_
  refine ww_lv (lv' := [(1, .int 0), (0, .ref (b + l0))]) rfl ?_
  refine r_aload_n hB 1 rfl (by decide +kernel : decode cX12_load 54 = .ok (.aload_n 0, 1)) rfl ?_
  refine r_cVv hB [] [] cf12 (own := "PulseRemoteModel") rfl cmX12_readsToken imX12_readsToken (Or.inl k_1326) (by decide) rfl rfl rfl (Nat.le_of_ble_eq_true rfl) (by decide +kernel : decode cX12_load 55 = .ok (.invokevirtual 154, 3)) (fun z hz => m_X12_readsToken _ _ _ _ hz) rfl hf (fun z55 hf => ?_)
  exact WW.sub [1, 0] rfl (t_X12_load_58 hB hf hk)
set_option maxHeartbeats 4000000 in
set_option maxRecDepth 100000 in
theorem t_X12_load_2_b {X : BX} {D : va_G} {cy : Nat → ClassId} {b : Nat} {r : Option Value} {μ' : MS} (hB : BB X D cy b yX12_load cX12_load 4 (some .int) rmX12_load) {l0 : Nat} {l1 : Int32} {μ : MS} {z : ((Nat × Int32 × MS) ⊕ (Int32 × MS))} (hf : f_X12_load_2_b l0 l1 μ = some z) (hk : (Sum.elim (fun s : Nat × Int32 × MS => WW X D cy b r μ' 4 0 0 2 [(0, .ref (b + s.1)), (1, .int s.2.1)] [] s.2.2) (fun z : Int32 × MS => r = some (.int z.1) ∧ μ' = z.2)) z) : WW X D cy b r μ' 4 0 0 2 [(0, .ref (b + l0)), (1, .int l1)] [] μ := by
  unfold f_X12_load_2_b at hf
  refine r_iload_n hB 1 rfl (by decide +kernel : decode cX12_load 2 = .ok (.iload_n 1, 1)) rfl ?_
  refine r_sipush hB (v := 686) (by decide +kernel : decode cX12_load 3 = .ok (.sipush 686, 3)) (by decide +kernel) ?_
  refine r_icmp_ge hB (tgt := 27) (by decide +kernel : decode cX12_load 6 = .ok (.if_icmp .ge 21, 3)) (by decide) hf (fun _ hf => ?_) (fun _ hf => ?_)
  · obtain ⟨_, hx0, rfl⟩ := xr_inv hf
    exact WW.sub [0] rfl (t_X12_load_27 hB hx0 hk)
  · refine r_aload_n hB 0 rfl (by decide +kernel : decode cX12_load 9 = .ok (.aload_n 0, 1)) rfl ?_
    refine r_gR hB cf12 10 (by decide) (own := "PulseRemoteModel") rfl (Or.inl k_1125) (by decide +kernel) (by decide +kernel : decode cX12_load 10 = .ok (.getfield 20, 3)) hf (fun x10 hf => ?_)
    refine r_iload_n hB 1 rfl (by decide +kernel : decode cX12_load 13 = .ok (.iload_n 1, 1)) rfl ?_
    refine r_aload_n hB 0 rfl (by decide +kernel : decode cX12_load 14 = .ok (.aload_n 0, 1)) rfl ?_
    refine r_gR hB cf12 0 (by decide) (own := "PulseRemoteModel") rfl (Or.inl k_1115) (by decide +kernel) (by decide +kernel : decode cX12_load 15 = .ok (.getfield 7, 3)) hf (fun x15 hf => ?_)
    refine r_iload_n hB 1 rfl (by decide +kernel : decode cX12_load 18 = .ok (.iload_n 1, 1)) rfl ?_
    refine r_iald hB (by decide +kernel : decode cX12_load 19 = .ok (.iaload, 1)) hf (fun x19 hf => ?_)
    refine r_iast hB (by decide +kernel : decode cX12_load 20 = .ok (.iastore, 1)) hf (fun m20 hf => ?_)
    refine r_iincB hB 1 rfl (by decide +kernel : decode cX12_load 21 = .ok (.iinc 1 1, 3)) (w := 1) (by decide +kernel) (by decide) hf (fun v21 hf => ?_)
    refine ww_lv (lv' := [(1, .int v21), (0, .ref (b + l0))]) rfl ?_
    refine r_goto hB (tgt := 2) (by decide +kernel : decode cX12_load 24 = .ok (.goto (-22), 3)) (by decide) ?_
    obtain rfl := Option.some.inj hf
    exact WW.sub [1, 0] rfl hk
set_option maxHeartbeats 4000000 in
set_option maxRecDepth 100000 in
theorem t_X12_load_2 {X : BX} {D : va_G} {cy : Nat → ClassId} {b : Nat} {r : Option Value} {μ' : MS} (hB : BB X D cy b yX12_load cX12_load 4 (some .int) rmX12_load) {l0 : Nat} {l1 : Int32} {μ : MS} {z : (Int32 × MS)} (hf : f_X12_load_2 l0 l1 μ = some z) (hk : (fun z : Int32 × MS => r = some (.int z.1) ∧ μ' = z.2) z) : WW X D cy b r μ' 4 0 0 2 [(0, .ref (b + l0)), (1, .int l1)] [] μ :=
  lp_ind (P := fun s : Nat × Int32 × MS => WW X D cy b r μ' 4 0 0 2 [(0, .ref (b + s.1)), (1, .int s.2.1)] [] s.2.2) (Q := (fun z : Int32 × MS => r = some (.int z.1) ∧ μ' = z.2)) (fun s z hz hk => t_X12_load_2_b hB hz hk) (l0, l1, μ) z hf hk
set_option maxHeartbeats 4000000 in
set_option maxRecDepth 100000 in
theorem t_X12_load_0 {X : BX} {D : va_G} {cy : Nat → ClassId} {b : Nat} {r : Option Value} {μ' : MS} (hB : BB X D cy b yX12_load cX12_load 4 (some .int) rmX12_load) {l0 : Nat} {μ : MS} {z : (Int32 × MS)} (hf : f_X12_load l0 μ = some z) (hk : (fun z : Int32 × MS => r = some (.int z.1) ∧ μ' = z.2) z) : WW X D cy b r μ' 4 0 0 0 [(0, .ref (b + l0))] [] μ := by
  unfold f_X12_load at hf
  refine r_iconst hB (v := 0) (by decide +kernel : decode cX12_load 0 = .ok (.iconst 0, 1)) (by decide +kernel) ?_
  refine r_istore_n hB (by decide +kernel : decode cX12_load 1 = .ok (.istore_n 1, 1)) rfl (by decide) rfl ?_
  refine ww_lv (lv' := [(1, .int 0), (0, .ref (b + l0))]) rfl ?_
  exact WW.sub [1, 0] rfl (t_X12_load_2 hB hf hk)
theorem m_X12_load (l : Launch) (D : va_G) (cy : Nat → ClassId) (b : Nat) {l0 : Nat} {μ : MS} {z : Int32 × MS} (hf : f_X12_load l0 μ = some z) : Met l yX12_load (.code yX12_load cX12_load 4 (some .int) :: GW) rmX12_load (Pw D cy b [.ref (b + l0)] μ) (Qw D cy b (some (.int z.1)) (z.2)) rmX12_load.cells rmX12_load.slots (fun q => b ≤ q) :=
  met_of (by decide) (Nat.le_of_ble_eq_true rfl) (fun X hB _ => (t_X12_load_0 hB hf ⟨rfl, rfl⟩))
-- PulseRemoteModel.isMark()Z
set_option maxHeartbeats 4000000 in
set_option maxRecDepth 100000 in
theorem t_X12_isMark_0 {X : BX} {D : va_G} {cy : Nat → ClassId} {b : Nat} {r : Option Value} {μ' : MS} (hB : BB X D cy b yX12_isMark cX12_isMark 1 (some .boolean) rmX12_isMark) {l0 : Nat} {μ : MS} {z : (Int32 × MS)} (hf : f_X12_isMark l0 μ = some z) (hk : (fun z : Int32 × MS => r = some (.int z.1) ∧ μ' = z.2) z) : WW X D cy b r μ' 1 0 0 0 [(0, .ref (b + l0))] [] μ := by
  unfold f_X12_isMark at hf
  refine r_aload_n hB 0 rfl (by decide +kernel : decode cX12_isMark 0 = .ok (.aload_n 0, 1)) rfl ?_
  refine r_gI hB cf12 12 (by decide) (own := "PulseRemoteModel") rfl (Or.inl k_1127) (by decide +kernel) (by decide +kernel : decode cX12_isMark 1 = .ok (.getfield 179, 3)) hf (fun x1 hf => ?_)
  refine r_iconst hB (v := 2) (by decide +kernel : decode cX12_isMark 4 = .ok (.iconst 2, 1)) (by decide +kernel) ?_
  refine r_irem hB (by decide +kernel : decode cX12_isMark 5 = .ok (.irem, 1)) hf (fun v5 hf => ?_)
  refine r_iconst hB (v := 1) (by decide +kernel : decode cX12_isMark 6 = .ok (.iconst 1, 1)) (by decide +kernel) ?_
  refine r_icmp_ne hB (tgt := 14) (by decide +kernel : decode cX12_isMark 7 = .ok (.if_icmp .ne 7, 3)) (by decide) hf (fun _ hf => ?_) (fun _ hf => ?_)
  · refine r_iconst hB (v := 1) (by decide +kernel : decode cX12_isMark 10 = .ok (.iconst 1, 1)) (by decide +kernel) ?_
    refine r_goto hB (tgt := 15) (by decide +kernel : decode cX12_isMark 11 = .ok (.goto 4, 3)) (by decide) ?_
    obtain rfl := Option.some.inj hf
    obtain ⟨rfl, rfl⟩ := hk
    exact r_zret hB (Or.inr rfl) (by decide +kernel : decode cX12_isMark 15 = .ok (.ireturn, 1))
  · refine r_iconst hB (v := 0) (by decide +kernel : decode cX12_isMark 14 = .ok (.iconst 0, 1)) (by decide +kernel) ?_
    obtain rfl := Option.some.inj hf
    obtain ⟨rfl, rfl⟩ := hk
    exact r_zret hB (Or.inl rfl) (by decide +kernel : decode cX12_isMark 15 = .ok (.ireturn, 1))
theorem m_X12_isMark (l : Launch) (D : va_G) (cy : Nat → ClassId) (b : Nat) {l0 : Nat} {μ : MS} {z : Int32 × MS} (hf : f_X12_isMark l0 μ = some z) : Met l yX12_isMark (.code yX12_isMark cX12_isMark 1 (some .boolean) :: GW) rmX12_isMark (Pw D cy b [.ref (b + l0)] μ) (Qw D cy b (some (.int z.1)) (z.2)) rmX12_isMark.cells rmX12_isMark.slots (fun q => b ≤ q) :=
  met_of (by decide) (Nat.le_of_ble_eq_true rfl) (fun X hB _ => (t_X12_isMark_0 hB hf ⟨rfl, rfl⟩))
-- PulseRemoteModel.lays(ZI)V
set_option maxHeartbeats 4000000 in
set_option maxRecDepth 100000 in
theorem t_X12_lays_33 {X : BX} {D : va_G} {cy : Nat → ClassId} {b : Nat} {r : Option Value} {μ' : MS} (hB : BB X D cy b yX12_lays cX12_lays 3 none rmX12_lays) {l0 : Nat} {l2 : Int32} {μ : MS} {z : MS} (hf : f_X12_lays_33 l0 l2 μ = some z) (hk : (fun z : MS => r = none ∧ μ' = z) z) : WW X D cy b r μ' 3 0 0 33 [(0, .ref (b + l0)), (2, .int l2)] [] μ := by
  unfold f_X12_lays_33 at hf
  refine r_aload_n hB 0 rfl (by decide +kernel : decode cX12_lays 33 = .ok (.aload_n 0, 1)) rfl ?_
  refine r_gR hB cf12 11 (by decide) (own := "PulseRemoteModel") rfl (Or.inl k_1126) (by decide +kernel) (by decide +kernel : decode cX12_lays 34 = .ok (.getfield 23, 3)) hf (fun x34 hf => ?_)
  refine r_aload_n hB 0 rfl (by decide +kernel : decode cX12_lays 37 = .ok (.aload_n 0, 1)) rfl ?_
  refine r_gI hB cf12 12 (by decide) (own := "PulseRemoteModel") rfl (Or.inl k_1127) (by decide +kernel) (by decide +kernel : decode cX12_lays 38 = .ok (.getfield 179, 3)) hf (fun x38 hf => ?_)
  refine r_iload_n hB 1 rfl (by decide +kernel : decode cX12_lays 41 = .ok (.iload_n 2, 1)) rfl ?_
  refine r_iast hB (by decide +kernel : decode cX12_lays 42 = .ok (.iastore, 1)) hf (fun m42 hf => ?_)
  refine r_aload_n hB 0 rfl (by decide +kernel : decode cX12_lays 43 = .ok (.aload_n 0, 1)) rfl ?_
  refine r_dup hB (by decide +kernel : decode cX12_lays 44 = .ok (.dup, 1)) rfl ?_
  refine r_gI hB cf12 12 (by decide) (own := "PulseRemoteModel") rfl (Or.inl k_1127) (by decide +kernel) (by decide +kernel : decode cX12_lays 45 = .ok (.getfield 179, 3)) hf (fun x45 hf => ?_)
  refine r_iconst hB (v := 1) (by decide +kernel : decode cX12_lays 48 = .ok (.iconst 1, 1)) (by decide +kernel) ?_
  refine r_iadd hB (by decide +kernel : decode cX12_lays 49 = .ok (.iadd, 1)) ?_
  refine r_pI hB cf12 12 (by decide) (own := "PulseRemoteModel") rfl (Or.inl k_1127) (Or.inl rfl) rfl (by decide +kernel : decode cX12_lays 50 = .ok (.putfield 179, 3)) hf (fun m50 hf => ?_)
  obtain rfl := Option.some.inj hf
  obtain ⟨rfl, rfl⟩ := hk
  exact r_vret hB (by decide +kernel : decode cX12_lays 53 = .ok (.return_, 1))
set_option maxHeartbeats 4000000 in
set_option maxRecDepth 100000 in
theorem t_X12_lays_0 {X : BX} {D : va_G} {cy : Nat → ClassId} {b : Nat} {r : Option Value} {μ' : MS} (hB : BB X D cy b yX12_lays cX12_lays 3 none rmX12_lays) {l0 : Nat} {l1 : Int32} {l2 : Int32} {μ : MS} {z : MS} (hf : f_X12_lays l0 l1 l2 μ = some z) (hk : (fun z : MS => r = none ∧ μ' = z) z) : WW X D cy b r μ' 3 0 0 0 [(0, .ref (b + l0)), (1, .int l1), (2, .int l2)] [] μ := by
  unfold f_X12_lays at hf
  refine r_aload_n hB 0 rfl (by decide +kernel : decode cX12_lays 0 = .ok (.aload_n 0, 1)) rfl ?_
  refine r_gI hB cf12 12 (by decide) (own := "PulseRemoteModel") rfl (Or.inl k_1127) (by decide +kernel) (by decide +kernel : decode cX12_lays 1 = .ok (.getfield 179, 3)) hf (fun x1 hf => ?_)
  refine r_if_le hB (tgt := 33) (by decide +kernel : decode cX12_lays 4 = .ok (.ifCond .le 29, 3)) (by decide) hf (fun _ hf => ?_) (fun _ hf => ?_)
  · exact WW.sub [0, 2] rfl (t_X12_lays_33 hB hf hk)
  · refine r_aload_n hB 0 rfl (by decide +kernel : decode cX12_lays 7 = .ok (.aload_n 0, 1)) rfl ?_
    refine r_cVi hB [] [] cf12 (own := "PulseRemoteModel") rfl cmX12_isMark imX12_isMark (Or.inl k_1385) (by decide) rfl rfl rfl (Nat.le_of_ble_eq_true rfl) (by decide +kernel : decode cX12_lays 8 = .ok (.invokevirtual 182, 3)) (fun z hz => m_X12_isMark _ _ _ _ hz) rfl hf (fun z8 hf => ?_)
    refine r_iload_n hB 1 rfl (by decide +kernel : decode cX12_lays 11 = .ok (.iload_n 1, 1)) rfl ?_
    refine r_icmp_ne hB (tgt := 33) (by decide +kernel : decode cX12_lays 12 = .ok (.if_icmp .ne 21, 3)) (by decide) hf (fun _ hf => ?_) (fun _ hf => ?_)
    · refine r_aload_n hB 0 rfl (by decide +kernel : decode cX12_lays 15 = .ok (.aload_n 0, 1)) rfl ?_
      refine r_gR hB cf12 11 (by decide) (own := "PulseRemoteModel") rfl (Or.inl k_1126) (by decide +kernel) (by decide +kernel : decode cX12_lays 16 = .ok (.getfield 23, 3)) hf (fun x16 hf => ?_)
      refine r_aload_n hB 0 rfl (by decide +kernel : decode cX12_lays 19 = .ok (.aload_n 0, 1)) rfl ?_
      refine r_gI hB cf12 12 (by decide) (own := "PulseRemoteModel") rfl (Or.inl k_1127) (by decide +kernel) (by decide +kernel : decode cX12_lays 20 = .ok (.getfield 179, 3)) hf (fun x20 hf => ?_)
      refine r_iconst hB (v := 1) (by decide +kernel : decode cX12_lays 23 = .ok (.iconst 1, 1)) (by decide +kernel) ?_
      refine r_isub hB (by decide +kernel : decode cX12_lays 24 = .ok (.isub, 1)) ?_
      refine r_dup2 hB (by decide +kernel : decode cX12_lays 25 = .ok (.dup2, 1)) rfl rfl ?_
      refine r_iald hB (by decide +kernel : decode cX12_lays 26 = .ok (.iaload, 1)) hf (fun x26 hf => ?_)
      refine r_iload_n hB 2 rfl (by decide +kernel : decode cX12_lays 27 = .ok (.iload_n 2, 1)) rfl ?_
      refine r_iadd hB (by decide +kernel : decode cX12_lays 28 = .ok (.iadd, 1)) ?_
      refine r_iast hB (by decide +kernel : decode cX12_lays 29 = .ok (.iastore, 1)) hf (fun m29 hf => ?_)
      refine r_goto hB (tgt := 53) (by decide +kernel : decode cX12_lays 30 = .ok (.goto 23, 3)) (by decide) ?_
      obtain rfl := Option.some.inj hf
      obtain ⟨rfl, rfl⟩ := hk
      exact r_vret hB (by decide +kernel : decode cX12_lays 53 = .ok (.return_, 1))
    · exact WW.sub [0, 2] rfl (t_X12_lays_33 hB hf hk)
theorem m_X12_lays (l : Launch) (D : va_G) (cy : Nat → ClassId) (b : Nat) {l0 : Nat} {l1 : Int32} {l2 : Int32} {μ : MS} {z : MS} (hf : f_X12_lays l0 l1 l2 μ = some z) : Met l yX12_lays (.code yX12_lays cX12_lays 3 none :: GW) rmX12_lays (Pw D cy b [.ref (b + l0), .int l1, .int l2] μ) (Qw D cy b (none) (z)) rmX12_lays.cells rmX12_lays.slots (fun q => b ≤ q) :=
  met_of (by decide) (Nat.le_of_ble_eq_true rfl) (fun X hB _ => (t_X12_lays_0 hB hf ⟨rfl, rfl⟩))
-- PulseRemoteModel.bit(III)Z
set_option maxHeartbeats 4000000 in
set_option maxRecDepth 100000 in
theorem t_X12_bit_35 {X : BX} {D : va_G} {cy : Nat → ClassId} {b : Nat} {r : Option Value} {μ' : MS} (hB : BB X D cy b yX12_bit cX12_bit 5 (some .boolean) rmX12_bit) {l2 : Int32} {s0 : Int32} {μ : MS} {z : (Int32 × MS)} (hf : f_X12_bit_35 l2 s0 μ = some z) (hk : (fun z : Int32 × MS => r = some (.int z.1) ∧ μ' = z.2) z) : WW X D cy b r μ' 5 0 0 35 [(2, .int l2)] [.int s0] μ := by
  unfold f_X12_bit_35 at hf
  refine r_istore hB (by decide +kernel : decode cX12_bit 35 = .ok (.istore 4, 2)) (by decide) rfl ?_
  refine ww_lv (lv' := [(4, .int s0), (2, .int l2)]) rfl ?_
  refine r_iload_n hB 1 rfl (by decide +kernel : decode cX12_bit 37 = .ok (.iload_n 2, 1)) rfl ?_
  refine r_iload hB 0 rfl (by decide +kernel : decode cX12_bit 38 = .ok (.iload 4, 2)) ?_
  refine r_ishr hB (by decide +kernel : decode cX12_bit 40 = .ok (.ishr, 1)) ?_
  refine r_iconst hB (v := 1) (by decide +kernel : decode cX12_bit 41 = .ok (.iconst 1, 1)) (by decide +kernel) ?_
  refine r_iand hB (by decide +kernel : decode cX12_bit 42 = .ok (.iand, 1)) ?_
  refine r_iconst hB (v := 1) (by decide +kernel : decode cX12_bit 43 = .ok (.iconst 1, 1)) (by decide +kernel) ?_
  refine r_icmp_ne hB (tgt := 51) (by decide +kernel : decode cX12_bit 44 = .ok (.if_icmp .ne 7, 3)) (by decide) hf (fun _ hf => ?_) (fun _ hf => ?_)
  · refine r_iconst hB (v := 1) (by decide +kernel : decode cX12_bit 47 = .ok (.iconst 1, 1)) (by decide +kernel) ?_
    refine r_goto hB (tgt := 52) (by decide +kernel : decode cX12_bit 48 = .ok (.goto 4, 3)) (by decide) ?_
    obtain rfl := Option.some.inj hf
    obtain ⟨rfl, rfl⟩ := hk
    exact r_zret hB (Or.inr rfl) (by decide +kernel : decode cX12_bit 52 = .ok (.ireturn, 1))
  · refine r_iconst hB (v := 0) (by decide +kernel : decode cX12_bit 51 = .ok (.iconst 0, 1)) (by decide +kernel) ?_
    obtain rfl := Option.some.inj hf
    obtain ⟨rfl, rfl⟩ := hk
    exact r_zret hB (Or.inl rfl) (by decide +kernel : decode cX12_bit 52 = .ok (.ireturn, 1))
set_option maxHeartbeats 4000000 in
set_option maxRecDepth 100000 in
theorem t_X12_bit_0 {X : BX} {D : va_G} {cy : Nat → ClassId} {b : Nat} {r : Option Value} {μ' : MS} (hB : BB X D cy b yX12_bit cX12_bit 5 (some .boolean) rmX12_bit) {l0 : Nat} {l1 : Int32} {l2 : Int32} {l3 : Int32} {μ : MS} {z : (Int32 × MS)} (hf : f_X12_bit l0 l1 l2 l3 μ = some z) (hk : (fun z : Int32 × MS => r = some (.int z.1) ∧ μ' = z.2) z) : WW X D cy b r μ' 5 0 0 0 [(0, .ref (b + l0)), (1, .int l1), (2, .int l2), (3, .int l3)] [] μ := by
  unfold f_X12_bit at hf
  refine r_aload_n hB 0 rfl (by decide +kernel : decode cX12_bit 0 = .ok (.aload_n 0, 1)) rfl ?_
  refine r_gR hB cf12 0 (by decide) (own := "PulseRemoteModel") rfl (Or.inl k_1115) (by decide +kernel) (by decide +kernel : decode cX12_bit 1 = .ok (.getfield 7, 3)) hf (fun x1 hf => ?_)
  refine r_iload_n hB 1 rfl (by decide +kernel : decode cX12_bit 4 = .ok (.iload_n 1, 1)) rfl ?_
  refine r_cSi hB [.int l1] [.ref (b + x1)] (own := "PulseRemoteModel") rfl cmX12_at smX12_at (Or.inl ⟨rfl, k_1244⟩) (by decide) rfl rfl rfl (Nat.le_of_ble_eq_true rfl) (by decide +kernel : decode cX12_bit 5 = .ok (.invokestatic 72, 3)) (fun z hz => m_X12_at _ _ _ _ hz) rfl hf (fun z5 hf => ?_)
  refine r_bipush hB (v := 7) (by decide +kernel : decode cX12_bit 8 = .ok (.bipush 7, 2)) (by decide +kernel) ?_
  refine r_iadd hB (by decide +kernel : decode cX12_bit 10 = .ok (.iadd, 1)) ?_
  refine r_iald hB (by decide +kernel : decode cX12_bit 11 = .ok (.iaload, 1)) hf (fun x11 hf => ?_)
  refine r_if_ne hB (tgt := 34) (by decide +kernel : decode cX12_bit 12 = .ok (.ifCond .ne 22, 3)) (by decide) hf (fun _ hf => ?_) (fun _ hf => ?_)
  · refine r_aload_n hB 0 rfl (by decide +kernel : decode cX12_bit 15 = .ok (.aload_n 0, 1)) rfl ?_
    refine r_gR hB cf12 0 (by decide) (own := "PulseRemoteModel") rfl (Or.inl k_1115) (by decide +kernel) (by decide +kernel : decode cX12_bit 16 = .ok (.getfield 7, 3)) hf (fun x16 hf => ?_)
    refine r_iload_n hB 1 rfl (by decide +kernel : decode cX12_bit 19 = .ok (.iload_n 1, 1)) rfl ?_
    refine r_cSi hB [.int l1] [.ref (b + x16)] (own := "PulseRemoteModel") rfl cmX12_at smX12_at (Or.inl ⟨rfl, k_1244⟩) (by decide) rfl rfl rfl (Nat.le_of_ble_eq_true rfl) (by decide +kernel : decode cX12_bit 20 = .ok (.invokestatic 72, 3)) (fun z hz => m_X12_at _ _ _ _ hz) rfl hf (fun z20 hf => ?_)
    refine r_bipush hB (v := 6) (by decide +kernel : decode cX12_bit 23 = .ok (.bipush 6, 2)) (by decide +kernel) ?_
    refine r_iadd hB (by decide +kernel : decode cX12_bit 25 = .ok (.iadd, 1)) ?_
    refine r_iald hB (by decide +kernel : decode cX12_bit 26 = .ok (.iaload, 1)) hf (fun x26 hf => ?_)
    refine r_iconst hB (v := 1) (by decide +kernel : decode cX12_bit 27 = .ok (.iconst 1, 1)) (by decide +kernel) ?_
    refine r_isub hB (by decide +kernel : decode cX12_bit 28 = .ok (.isub, 1)) ?_
    refine r_iload_n hB 3 rfl (by decide +kernel : decode cX12_bit 29 = .ok (.iload_n 3, 1)) rfl ?_
    refine r_isub hB (by decide +kernel : decode cX12_bit 30 = .ok (.isub, 1)) ?_
    refine r_goto hB (tgt := 35) (by decide +kernel : decode cX12_bit 31 = .ok (.goto 4, 3)) (by decide) ?_
    exact WW.sub [2] rfl (t_X12_bit_35 hB hf hk)
  · refine r_iload_n hB 3 rfl (by decide +kernel : decode cX12_bit 34 = .ok (.iload_n 3, 1)) rfl ?_
    exact WW.sub [2] rfl (t_X12_bit_35 hB hf hk)
theorem m_X12_bit (l : Launch) (D : va_G) (cy : Nat → ClassId) (b : Nat) {l0 : Nat} {l1 : Int32} {l2 : Int32} {l3 : Int32} {μ : MS} {z : Int32 × MS} (hf : f_X12_bit l0 l1 l2 l3 μ = some z) : Met l yX12_bit (.code yX12_bit cX12_bit 5 (some .boolean) :: GW) rmX12_bit (Pw D cy b [.ref (b + l0), .int l1, .int l2, .int l3] μ) (Qw D cy b (some (.int z.1)) (z.2)) rmX12_bit.cells rmX12_bit.slots (fun q => b ≤ q) :=
  met_of (by decide) (Nat.le_of_ble_eq_true rfl) (fun X hB _ => (t_X12_bit_0 hB hf ⟨rfl, rfl⟩))
-- PulseRemoteModel.makes(II)V
set_option maxHeartbeats 4000000 in
set_option maxRecDepth 100000 in
theorem t_X12_makes_259 {X : BX} {D : va_G} {cy : Nat → ClassId} {b : Nat} {r : Option Value} {μ' : MS} (hB : BB X D cy b yX12_makes cX12_makes 6 none rmX12_makes) {s0 : Int32} {s1 : Int32} {s2 : Nat} {μ : MS} {z : MS} (hf : f_X12_makes_259 s0 s1 s2 μ = some z) (hk : (fun z : MS => r = none ∧ μ' = z) z) : WW X D cy b r μ' 6 0 0 259 [] [.int s0, .int s1, .ref (b + s2)] μ := by
  unfold f_X12_makes_259 at hf
  refine r_isub hB (by decide +kernel : decode cX12_makes 259 = .ok (.isub, 1)) ?_
  refine r_pI hB cf12 12 (by decide) (own := "PulseRemoteModel") rfl (Or.inl k_1127) (Or.inl rfl) rfl (by decide +kernel : decode cX12_makes 260 = .ok (.putfield 179, 3)) hf (fun m260 hf => ?_)
  obtain rfl := Option.some.inj hf
  obtain ⟨rfl, rfl⟩ := hk
  exact r_vret hB (by decide +kernel : decode cX12_makes 263 = .ok (.return_, 1))
set_option maxHeartbeats 4000000 in
set_option maxRecDepth 100000 in
theorem t_X12_makes_242 {X : BX} {D : va_G} {cy : Nat → ClassId} {b : Nat} {r : Option Value} {μ' : MS} (hB : BB X D cy b yX12_makes cX12_makes 6 none rmX12_makes) {l0 : Nat} {μ : MS} {z : MS} (hf : f_X12_makes_242 l0 μ = some z) (hk : (fun z : MS => r = none ∧ μ' = z) z) : WW X D cy b r μ' 6 0 0 242 [(0, .ref (b + l0))] [] μ := by
  unfold f_X12_makes_242 at hf
  refine r_aload_n hB 0 rfl (by decide +kernel : decode cX12_makes 242 = .ok (.aload_n 0, 1)) rfl ?_
  refine r_dup hB (by decide +kernel : decode cX12_makes 243 = .ok (.dup, 1)) rfl ?_
  refine r_gI hB cf12 12 (by decide) (own := "PulseRemoteModel") rfl (Or.inl k_1127) (by decide +kernel) (by decide +kernel : decode cX12_makes 244 = .ok (.getfield 179, 3)) hf (fun x244 hf => ?_)
  refine r_aload_n hB 0 rfl (by decide +kernel : decode cX12_makes 247 = .ok (.aload_n 0, 1)) rfl ?_
  refine r_cVi hB [] [.int x244, .ref (b + l0)] cf12 (own := "PulseRemoteModel") rfl cmX12_isMark imX12_isMark (Or.inl k_1385) (by decide) rfl rfl rfl (Nat.le_of_ble_eq_true rfl) (by decide +kernel : decode cX12_makes 248 = .ok (.invokevirtual 182, 3)) (fun z hz => m_X12_isMark _ _ _ _ hz) rfl hf (fun z248 hf => ?_)
  refine r_if_eq hB (tgt := 258) (by decide +kernel : decode cX12_makes 251 = .ok (.ifCond .eq 7, 3)) (by decide) hf (fun _ hf => ?_) (fun _ hf => ?_)
  · refine r_iconst hB (v := 1) (by decide +kernel : decode cX12_makes 258 = .ok (.iconst 1, 1)) (by decide +kernel) ?_
    exact WW.sub [] rfl (t_X12_makes_259 hB hf hk)
  · refine r_iconst hB (v := 0) (by decide +kernel : decode cX12_makes 254 = .ok (.iconst 0, 1)) (by decide +kernel) ?_
    refine r_goto hB (tgt := 259) (by decide +kernel : decode cX12_makes 255 = .ok (.goto 4, 3)) (by decide) ?_
    exact WW.sub [] rfl (t_X12_makes_259 hB hf hk)
set_option maxHeartbeats 4000000 in
set_option maxRecDepth 100000 in
theorem t_X12_makes_218 {X : BX} {D : va_G} {cy : Nat → ClassId} {b : Nat} {r : Option Value} {μ' : MS} (hB : BB X D cy b yX12_makes cX12_makes 6 none rmX12_makes) {l0 : Nat} {l3 : Int32} {μ : MS} {z : MS} (hf : f_X12_makes_218 l0 l3 μ = some z) (hk : (fun z : MS => r = none ∧ μ' = z) z) : WW X D cy b r μ' 6 0 0 218 [(0, .ref (b + l0)), (3, .int l3)] [] μ := by
  unfold f_X12_makes_218 at hf
  refine r_aload_n hB 0 rfl (by decide +kernel : decode cX12_makes 218 = .ok (.aload_n 0, 1)) rfl ?_
  refine r_gR hB cf12 0 (by decide) (own := "PulseRemoteModel") rfl (Or.inl k_1115) (by decide +kernel) (by decide +kernel : decode cX12_makes 219 = .ok (.getfield 7, 3)) hf (fun x219 hf => ?_)
  refine r_iload_n hB 1 rfl (by decide +kernel : decode cX12_makes 222 = .ok (.iload_n 3, 1)) rfl ?_
  refine r_iconst hB (v := 0) (by decide +kernel : decode cX12_makes 223 = .ok (.iconst 0, 1)) (by decide +kernel) ?_
  refine r_iadd hB (by decide +kernel : decode cX12_makes 224 = .ok (.iadd, 1)) ?_
  refine r_iald hB (by decide +kernel : decode cX12_makes 225 = .ok (.iaload, 1)) hf (fun x225 hf => ?_)
  refine r_if_ne hB (tgt := 242) (by decide +kernel : decode cX12_makes 226 = .ok (.ifCond .ne 16, 3)) (by decide) hf (fun _ hf => ?_) (fun _ hf => ?_)
  · refine r_aload_n hB 0 rfl (by decide +kernel : decode cX12_makes 229 = .ok (.aload_n 0, 1)) rfl ?_
    refine r_iconst hB (v := 1) (by decide +kernel : decode cX12_makes 230 = .ok (.iconst 1, 1)) (by decide +kernel) ?_
    refine r_aload_n hB 0 rfl (by decide +kernel : decode cX12_makes 231 = .ok (.aload_n 0, 1)) rfl ?_
    refine r_gR hB cf12 0 (by decide) (own := "PulseRemoteModel") rfl (Or.inl k_1115) (by decide +kernel) (by decide +kernel : decode cX12_makes 232 = .ok (.getfield 7, 3)) hf (fun x232 hf => ?_)
    refine r_iload_n hB 1 rfl (by decide +kernel : decode cX12_makes 235 = .ok (.iload_n 3, 1)) rfl ?_
    refine r_iconst hB (v := 3) (by decide +kernel : decode cX12_makes 236 = .ok (.iconst 3, 1)) (by decide +kernel) ?_
    refine r_iadd hB (by decide +kernel : decode cX12_makes 237 = .ok (.iadd, 1)) ?_
    refine r_iald hB (by decide +kernel : decode cX12_makes 238 = .ok (.iaload, 1)) hf (fun x238 hf => ?_)
    refine r_cVv hB [.int 1, .int x238] [] cf12 (own := "PulseRemoteModel") rfl cmX12_lays imX12_lays (Or.inl k_1381) (by decide) rfl rfl rfl (Nat.le_of_ble_eq_true rfl) (by decide +kernel : decode cX12_makes 239 = .ok (.invokevirtual 186, 3)) (fun z hz => m_X12_lays _ _ _ _ hz) rfl hf (fun z239 hf => ?_)
    exact WW.sub [0] rfl (t_X12_makes_242 hB hf hk)
  · exact WW.sub [0] rfl (t_X12_makes_242 hB hf hk)
set_option maxHeartbeats 4000000 in
set_option maxRecDepth 100000 in
theorem t_X12_makes_212 {X : BX} {D : va_G} {cy : Nat → ClassId} {b : Nat} {r : Option Value} {μ' : MS} (hB : BB X D cy b yX12_makes cX12_makes 6 none rmX12_makes) {l0 : Nat} {l1 : Int32} {l2 : Int32} {l3 : Int32} {l4 : Int32} {μ : MS} {z : ((Nat × Int32 × Int32 × Int32 × Int32 × MS) ⊕ MS)} (hf : f_X12_makes_212 l0 l1 l2 l3 l4 μ = some z) (hk : (Sum.elim (fun s : Nat × Int32 × Int32 × Int32 × Int32 × MS => WW X D cy b r μ' 6 0 0 39 [(0, .ref (b + s.1)), (1, .int s.2.1), (2, .int s.2.2.1), (3, .int s.2.2.2.1), (4, .int s.2.2.2.2.1)] [] s.2.2.2.2.2) (fun z : MS => r = none ∧ μ' = z)) z) : WW X D cy b r μ' 6 0 0 212 [(0, .ref (b + l0)), (1, .int l1), (2, .int l2), (3, .int l3), (4, .int l4)] [] μ := by
  unfold f_X12_makes_212 at hf
  refine r_iincB hB 4 rfl (by decide +kernel : decode cX12_makes 212 = .ok (.iinc 4 1, 3)) (w := 1) (by decide +kernel) (by decide) hf (fun v212 hf => ?_)
  refine ww_lv (lv' := [(4, .int v212), (0, .ref (b + l0)), (1, .int l1), (2, .int l2), (3, .int l3)]) rfl ?_
  refine r_goto hB (tgt := 39) (by decide +kernel : decode cX12_makes 215 = .ok (.goto (-176), 3)) (by decide) ?_
  obtain rfl := Option.some.inj hf
  exact WW.sub [1, 2, 3, 4, 0] rfl hk
set_option maxHeartbeats 4000000 in
set_option maxRecDepth 100000 in
theorem t_X12_makes_113 {X : BX} {D : va_G} {cy : Nat → ClassId} {b : Nat} {r : Option Value} {μ' : MS} (hB : BB X D cy b yX12_makes cX12_makes 6 none rmX12_makes) {l0 : Nat} {l1 : Int32} {l2 : Int32} {l3 : Int32} {l4 : Int32} {s0 : Int32} {s1 : Int32} {s2 : Nat} {μ : MS} {z : ((Nat × Int32 × Int32 × Int32 × Int32 × MS) ⊕ MS)} (hf : f_X12_makes_113 l0 l1 l2 l3 l4 s0 s1 s2 μ = some z) (hk : (Sum.elim (fun s : Nat × Int32 × Int32 × Int32 × Int32 × MS => WW X D cy b r μ' 6 0 0 39 [(0, .ref (b + s.1)), (1, .int s.2.1), (2, .int s.2.2.1), (3, .int s.2.2.2.1), (4, .int s.2.2.2.2.1)] [] s.2.2.2.2.2) (fun z : MS => r = none ∧ μ' = z)) z) : WW X D cy b r μ' 6 0 0 113 [(0, .ref (b + l0)), (1, .int l1), (2, .int l2), (3, .int l3), (4, .int l4)] [.int s0, .int s1, .ref (b + s2)] μ := by
  unfold f_X12_makes_113 at hf
  refine r_cVv hB [.int s1, .int s0] [] cf12 (own := "PulseRemoteModel") rfl cmX12_lays imX12_lays (Or.inl k_1381) (by decide) rfl rfl rfl (Nat.le_of_ble_eq_true rfl) (by decide +kernel : decode cX12_makes 113 = .ok (.invokevirtual 186, 3)) (fun z hz => m_X12_lays _ _ _ _ hz) rfl hf (fun z113 hf => ?_)
  refine r_goto hB (tgt := 212) (by decide +kernel : decode cX12_makes 116 = .ok (.goto 96, 3)) (by decide) ?_
  exact WW.sub [0, 1, 2, 3, 4] rfl (t_X12_makes_212 hB hf hk)
set_option maxHeartbeats 4000000 in
set_option maxRecDepth 100000 in
theorem t_X12_makes_157 {X : BX} {D : va_G} {cy : Nat → ClassId} {b : Nat} {r : Option Value} {μ' : MS} (hB : BB X D cy b yX12_makes cX12_makes 6 none rmX12_makes) {l0 : Nat} {l1 : Int32} {l2 : Int32} {l3 : Int32} {l4 : Int32} {s0 : Int32} {s1 : Int32} {s2 : Nat} {μ : MS} {z : ((Nat × Int32 × Int32 × Int32 × Int32 × MS) ⊕ MS)} (hf : f_X12_makes_157 l0 l1 l2 l3 l4 s0 s1 s2 μ = some z) (hk : (Sum.elim (fun s : Nat × Int32 × Int32 × Int32 × Int32 × MS => WW X D cy b r μ' 6 0 0 39 [(0, .ref (b + s.1)), (1, .int s.2.1), (2, .int s.2.2.1), (3, .int s.2.2.2.1), (4, .int s.2.2.2.2.1)] [] s.2.2.2.2.2) (fun z : MS => r = none ∧ μ' = z)) z) : WW X D cy b r μ' 6 0 0 157 [(0, .ref (b + l0)), (1, .int l1), (2, .int l2), (3, .int l3), (4, .int l4)] [.int s0, .int s1, .ref (b + s2)] μ := by
  unfold f_X12_makes_157 at hf
  refine r_cVv hB [.int s1, .int s0] [] cf12 (own := "PulseRemoteModel") rfl cmX12_lays imX12_lays (Or.inl k_1381) (by decide) rfl rfl rfl (Nat.le_of_ble_eq_true rfl) (by decide +kernel : decode cX12_makes 157 = .ok (.invokevirtual 186, 3)) (fun z hz => m_X12_lays _ _ _ _ hz) rfl hf (fun z157 hf => ?_)
  refine r_aload_n hB 0 rfl (by decide +kernel : decode cX12_makes 160 = .ok (.aload_n 0, 1)) rfl ?_
  refine r_iconst hB (v := 0) (by decide +kernel : decode cX12_makes 161 = .ok (.iconst 0, 1)) (by decide +kernel) ?_
  refine r_aload_n hB 0 rfl (by decide +kernel : decode cX12_makes 162 = .ok (.aload_n 0, 1)) rfl ?_
  refine r_gR hB cf12 0 (by decide) (own := "PulseRemoteModel") rfl (Or.inl k_1115) (by decide +kernel) (by decide +kernel : decode cX12_makes 163 = .ok (.getfield 7, 3)) hf (fun x163 hf => ?_)
  refine r_iload_n hB 3 rfl (by decide +kernel : decode cX12_makes 166 = .ok (.iload_n 3, 1)) rfl ?_
  refine r_iconst hB (v := 3) (by decide +kernel : decode cX12_makes 167 = .ok (.iconst 3, 1)) (by decide +kernel) ?_
  refine r_iadd hB (by decide +kernel : decode cX12_makes 168 = .ok (.iadd, 1)) ?_
  refine r_iald hB (by decide +kernel : decode cX12_makes 169 = .ok (.iaload, 1)) hf (fun x169 hf => ?_)
  refine r_cVv hB [.int 0, .int x169] [] cf12 (own := "PulseRemoteModel") rfl cmX12_lays imX12_lays (Or.inl k_1381) (by decide) rfl rfl rfl (Nat.le_of_ble_eq_true rfl) (by decide +kernel : decode cX12_makes 170 = .ok (.invokevirtual 186, 3)) (fun z hz => m_X12_lays _ _ _ _ hz) rfl hf (fun z170 hf => ?_)
  refine r_goto hB (tgt := 212) (by decide +kernel : decode cX12_makes 173 = .ok (.goto 39, 3)) (by decide) ?_
  exact WW.sub [0, 1, 2, 3, 4] rfl (t_X12_makes_212 hB hf hk)
set_option maxHeartbeats 4000000 in
set_option maxRecDepth 100000 in
theorem t_X12_makes_201 {X : BX} {D : va_G} {cy : Nat → ClassId} {b : Nat} {r : Option Value} {μ' : MS} (hB : BB X D cy b yX12_makes cX12_makes 6 none rmX12_makes) {l0 : Nat} {l1 : Int32} {l2 : Int32} {l3 : Int32} {l4 : Int32} {s0 : Int32} {s1 : Nat} {μ : MS} {z : ((Nat × Int32 × Int32 × Int32 × Int32 × MS) ⊕ MS)} (hf : f_X12_makes_201 l0 l1 l2 l3 l4 s0 s1 μ = some z) (hk : (Sum.elim (fun s : Nat × Int32 × Int32 × Int32 × Int32 × MS => WW X D cy b r μ' 6 0 0 39 [(0, .ref (b + s.1)), (1, .int s.2.1), (2, .int s.2.2.1), (3, .int s.2.2.2.1), (4, .int s.2.2.2.2.1)] [] s.2.2.2.2.2) (fun z : MS => r = none ∧ μ' = z)) z) : WW X D cy b r μ' 6 0 0 201 [(0, .ref (b + l0)), (1, .int l1), (2, .int l2), (3, .int l3), (4, .int l4)] [.int s0, .ref (b + s1)] μ := by
  unfold f_X12_makes_201 at hf
  refine r_aload_n hB 0 rfl (by decide +kernel : decode cX12_makes 201 = .ok (.aload_n 0, 1)) rfl ?_
  refine r_gR hB cf12 0 (by decide) (own := "PulseRemoteModel") rfl (Or.inl k_1115) (by decide +kernel) (by decide +kernel : decode cX12_makes 202 = .ok (.getfield 7, 3)) hf (fun x202 hf => ?_)
  refine r_iload_n hB 3 rfl (by decide +kernel : decode cX12_makes 205 = .ok (.iload_n 3, 1)) rfl ?_
  refine r_iconst hB (v := 3) (by decide +kernel : decode cX12_makes 206 = .ok (.iconst 3, 1)) (by decide +kernel) ?_
  refine r_iadd hB (by decide +kernel : decode cX12_makes 207 = .ok (.iadd, 1)) ?_
  refine r_iald hB (by decide +kernel : decode cX12_makes 208 = .ok (.iaload, 1)) hf (fun x208 hf => ?_)
  refine r_cVv hB [.int s0, .int x208] [] cf12 (own := "PulseRemoteModel") rfl cmX12_lays imX12_lays (Or.inl k_1381) (by decide) rfl rfl rfl (Nat.le_of_ble_eq_true rfl) (by decide +kernel : decode cX12_makes 209 = .ok (.invokevirtual 186, 3)) (fun z hz => m_X12_lays _ _ _ _ hz) rfl hf (fun z209 hf => ?_)
  exact WW.sub [0, 1, 2, 3, 4] rfl (t_X12_makes_212 hB hf hk)
set_option maxHeartbeats 4000000 in
set_option maxRecDepth 100000 in
theorem t_X12_makes_39_b {X : BX} {D : va_G} {cy : Nat → ClassId} {b : Nat} {r : Option Value} {μ' : MS} (hB : BB X D cy b yX12_makes cX12_makes 6 none rmX12_makes) {l0 : Nat} {l1 : Int32} {l2 : Int32} {l3 : Int32} {l4 : Int32} {μ : MS} {z : ((Nat × Int32 × Int32 × Int32 × Int32 × MS) ⊕ MS)} (hf : f_X12_makes_39_b l0 l1 l2 l3 l4 μ = some z) (hk : (Sum.elim (fun s : Nat × Int32 × Int32 × Int32 × Int32 × MS => WW X D cy b r μ' 6 0 0 39 [(0, .ref (b + s.1)), (1, .int s.2.1), (2, .int s.2.2.1), (3, .int s.2.2.2.1), (4, .int s.2.2.2.2.1)] [] s.2.2.2.2.2) (fun z : MS => r = none ∧ μ' = z)) z) : WW X D cy b r μ' 6 0 0 39 [(0, .ref (b + l0)), (1, .int l1), (2, .int l2), (3, .int l3), (4, .int l4)] [] μ := by
  unfold f_X12_makes_39_b at hf
  refine r_iload hB 4 rfl (by decide +kernel : decode cX12_makes 39 = .ok (.iload 4, 2)) ?_
  refine r_aload_n hB 0 rfl (by decide +kernel : decode cX12_makes 41 = .ok (.aload_n 0, 1)) rfl ?_
  refine r_gR hB cf12 0 (by decide) (own := "PulseRemoteModel") rfl (Or.inl k_1115) (by decide +kernel) (by decide +kernel : decode cX12_makes 42 = .ok (.getfield 7, 3)) hf (fun x42 hf => ?_)
  refine r_iload_n hB 3 rfl (by decide +kernel : decode cX12_makes 45 = .ok (.iload_n 3, 1)) rfl ?_
  refine r_bipush hB (v := 6) (by decide +kernel : decode cX12_makes 46 = .ok (.bipush 6, 2)) (by decide +kernel) ?_
  refine r_iadd hB (by decide +kernel : decode cX12_makes 48 = .ok (.iadd, 1)) ?_
  refine r_iald hB (by decide +kernel : decode cX12_makes 49 = .ok (.iaload, 1)) hf (fun x49 hf => ?_)
  refine r_icmp_ge hB (tgt := 218) (by decide +kernel : decode cX12_makes 50 = .ok (.if_icmp .ge 168, 3)) (by decide) hf (fun _ hf => ?_) (fun _ hf => ?_)
  · obtain ⟨_, hx0, rfl⟩ := xr_inv hf
    exact WW.sub [0, 3] rfl (t_X12_makes_218 hB hx0 hk)
  · refine r_aload_n hB 0 rfl (by decide +kernel : decode cX12_makes 53 = .ok (.aload_n 0, 1)) rfl ?_
    refine r_iload_n hB 1 rfl (by decide +kernel : decode cX12_makes 54 = .ok (.iload_n 1, 1)) rfl ?_
    refine r_iload_n hB 2 rfl (by decide +kernel : decode cX12_makes 55 = .ok (.iload_n 2, 1)) rfl ?_
    refine r_iload hB 4 rfl (by decide +kernel : decode cX12_makes 56 = .ok (.iload 4, 2)) ?_
    refine r_cVi hB [.int l1, .int l2, .int l4] [] cf12 (own := "PulseRemoteModel") rfl cmX12_bit imX12_bit (Or.inl k_1389) (by decide) rfl rfl rfl (Nat.le_of_ble_eq_true rfl) (by decide +kernel : decode cX12_makes 58 = .ok (.invokevirtual 190, 3)) (fun z hz => m_X12_bit _ _ _ _ hz) rfl hf (fun z58 hf => ?_)
    refine r_istore hB (by decide +kernel : decode cX12_makes 61 = .ok (.istore 5, 2)) (by decide) rfl ?_
    refine ww_lv (lv' := [(5, .int z58.1), (0, .ref (b + l0)), (1, .int l1), (2, .int l2), (3, .int l3), (4, .int l4)]) rfl ?_
    refine r_aload_n hB 1 rfl (by decide +kernel : decode cX12_makes 63 = .ok (.aload_n 0, 1)) rfl ?_
    refine r_gR hB cf12 0 (by decide) (own := "PulseRemoteModel") rfl (Or.inl k_1115) (by decide +kernel) (by decide +kernel : decode cX12_makes 64 = .ok (.getfield 7, 3)) hf (fun x64 hf => ?_)
    refine r_iload_n hB 4 rfl (by decide +kernel : decode cX12_makes 67 = .ok (.iload_n 3, 1)) rfl ?_
    refine r_iconst hB (v := 0) (by decide +kernel : decode cX12_makes 68 = .ok (.iconst 0, 1)) (by decide +kernel) ?_
    refine r_iadd hB (by decide +kernel : decode cX12_makes 69 = .ok (.iadd, 1)) ?_
    refine r_iald hB (by decide +kernel : decode cX12_makes 70 = .ok (.iaload, 1)) hf (fun x70 hf => ?_)
    refine r_if_ne hB (tgt := 119) (by decide +kernel : decode cX12_makes 71 = .ok (.ifCond .ne 48, 3)) (by decide) hf (fun _ hf => ?_) (fun _ hf => ?_)
    · refine r_aload_n hB 1 rfl (by decide +kernel : decode cX12_makes 74 = .ok (.aload_n 0, 1)) rfl ?_
      refine r_iconst hB (v := 1) (by decide +kernel : decode cX12_makes 75 = .ok (.iconst 1, 1)) (by decide +kernel) ?_
      refine r_aload_n hB 1 rfl (by decide +kernel : decode cX12_makes 76 = .ok (.aload_n 0, 1)) rfl ?_
      refine r_gR hB cf12 0 (by decide) (own := "PulseRemoteModel") rfl (Or.inl k_1115) (by decide +kernel) (by decide +kernel : decode cX12_makes 77 = .ok (.getfield 7, 3)) hf (fun x77 hf => ?_)
      refine r_iload_n hB 4 rfl (by decide +kernel : decode cX12_makes 80 = .ok (.iload_n 3, 1)) rfl ?_
      refine r_iconst hB (v := 3) (by decide +kernel : decode cX12_makes 81 = .ok (.iconst 3, 1)) (by decide +kernel) ?_
      refine r_iadd hB (by decide +kernel : decode cX12_makes 82 = .ok (.iadd, 1)) ?_
      refine r_iald hB (by decide +kernel : decode cX12_makes 83 = .ok (.iaload, 1)) hf (fun x83 hf => ?_)
      refine r_cVv hB [.int 1, .int x83] [] cf12 (own := "PulseRemoteModel") rfl cmX12_lays imX12_lays (Or.inl k_1381) (by decide) rfl rfl rfl (Nat.le_of_ble_eq_true rfl) (by decide +kernel : decode cX12_makes 84 = .ok (.invokevirtual 186, 3)) (fun z hz => m_X12_lays _ _ _ _ hz) rfl hf (fun z84 hf => ?_)
      refine r_aload_n hB 1 rfl (by decide +kernel : decode cX12_makes 87 = .ok (.aload_n 0, 1)) rfl ?_
      refine r_iconst hB (v := 0) (by decide +kernel : decode cX12_makes 88 = .ok (.iconst 0, 1)) (by decide +kernel) ?_
      refine r_iload hB 0 rfl (by decide +kernel : decode cX12_makes 89 = .ok (.iload 5, 2)) ?_
      refine r_if_eq hB (tgt := 105) (by decide +kernel : decode cX12_makes 91 = .ok (.ifCond .eq 14, 3)) (by decide) hf (fun _ hf => ?_) (fun _ hf => ?_)
      · refine r_aload_n hB 1 rfl (by decide +kernel : decode cX12_makes 105 = .ok (.aload_n 0, 1)) rfl ?_
        refine r_gR hB cf12 0 (by decide) (own := "PulseRemoteModel") rfl (Or.inl k_1115) (by decide +kernel) (by decide +kernel : decode cX12_makes 106 = .ok (.getfield 7, 3)) hf (fun x106 hf => ?_)
        refine r_iload_n hB 4 rfl (by decide +kernel : decode cX12_makes 109 = .ok (.iload_n 3, 1)) rfl ?_
        refine r_iconst hB (v := 4) (by decide +kernel : decode cX12_makes 110 = .ok (.iconst 4, 1)) (by decide +kernel) ?_
        refine r_iadd hB (by decide +kernel : decode cX12_makes 111 = .ok (.iadd, 1)) ?_
        refine r_iald hB (by decide +kernel : decode cX12_makes 112 = .ok (.iaload, 1)) hf (fun x112 hf => ?_)
        exact WW.sub [1, 2, 3, 4, 5] rfl (t_X12_makes_113 hB hf hk)
      · refine r_aload_n hB 1 rfl (by decide +kernel : decode cX12_makes 94 = .ok (.aload_n 0, 1)) rfl ?_
        refine r_gR hB cf12 0 (by decide) (own := "PulseRemoteModel") rfl (Or.inl k_1115) (by decide +kernel) (by decide +kernel : decode cX12_makes 95 = .ok (.getfield 7, 3)) hf (fun x95 hf => ?_)
        refine r_iload_n hB 4 rfl (by decide +kernel : decode cX12_makes 98 = .ok (.iload_n 3, 1)) rfl ?_
        refine r_iconst hB (v := 5) (by decide +kernel : decode cX12_makes 99 = .ok (.iconst 5, 1)) (by decide +kernel) ?_
        refine r_iadd hB (by decide +kernel : decode cX12_makes 100 = .ok (.iadd, 1)) ?_
        refine r_iald hB (by decide +kernel : decode cX12_makes 101 = .ok (.iaload, 1)) hf (fun x101 hf => ?_)
        refine r_goto hB (tgt := 113) (by decide +kernel : decode cX12_makes 102 = .ok (.goto 11, 3)) (by decide) ?_
        exact WW.sub [1, 2, 3, 4, 5] rfl (t_X12_makes_113 hB hf hk)
    · refine r_aload_n hB 1 rfl (by decide +kernel : decode cX12_makes 119 = .ok (.aload_n 0, 1)) rfl ?_
      refine r_gR hB cf12 0 (by decide) (own := "PulseRemoteModel") rfl (Or.inl k_1115) (by decide +kernel) (by decide +kernel : decode cX12_makes 120 = .ok (.getfield 7, 3)) hf (fun x120 hf => ?_)
      refine r_iload_n hB 4 rfl (by decide +kernel : decode cX12_makes 123 = .ok (.iload_n 3, 1)) rfl ?_
      refine r_iconst hB (v := 0) (by decide +kernel : decode cX12_makes 124 = .ok (.iconst 0, 1)) (by decide +kernel) ?_
      refine r_iadd hB (by decide +kernel : decode cX12_makes 125 = .ok (.iadd, 1)) ?_
      refine r_iald hB (by decide +kernel : decode cX12_makes 126 = .ok (.iaload, 1)) hf (fun x126 hf => ?_)
      refine r_iconst hB (v := 1) (by decide +kernel : decode cX12_makes 127 = .ok (.iconst 1, 1)) (by decide +kernel) ?_
      refine r_icmp_ne hB (tgt := 176) (by decide +kernel : decode cX12_makes 128 = .ok (.if_icmp .ne 48, 3)) (by decide) hf (fun _ hf => ?_) (fun _ hf => ?_)
      · refine r_aload_n hB 1 rfl (by decide +kernel : decode cX12_makes 131 = .ok (.aload_n 0, 1)) rfl ?_
        refine r_iconst hB (v := 1) (by decide +kernel : decode cX12_makes 132 = .ok (.iconst 1, 1)) (by decide +kernel) ?_
        refine r_iload hB 0 rfl (by decide +kernel : decode cX12_makes 133 = .ok (.iload 5, 2)) ?_
        refine r_if_eq hB (tgt := 149) (by decide +kernel : decode cX12_makes 135 = .ok (.ifCond .eq 14, 3)) (by decide) hf (fun _ hf => ?_) (fun _ hf => ?_)
        · refine r_aload_n hB 1 rfl (by decide +kernel : decode cX12_makes 149 = .ok (.aload_n 0, 1)) rfl ?_
          refine r_gR hB cf12 0 (by decide) (own := "PulseRemoteModel") rfl (Or.inl k_1115) (by decide +kernel) (by decide +kernel : decode cX12_makes 150 = .ok (.getfield 7, 3)) hf (fun x150 hf => ?_)
          refine r_iload_n hB 4 rfl (by decide +kernel : decode cX12_makes 153 = .ok (.iload_n 3, 1)) rfl ?_
          refine r_iconst hB (v := 4) (by decide +kernel : decode cX12_makes 154 = .ok (.iconst 4, 1)) (by decide +kernel) ?_
          refine r_iadd hB (by decide +kernel : decode cX12_makes 155 = .ok (.iadd, 1)) ?_
          refine r_iald hB (by decide +kernel : decode cX12_makes 156 = .ok (.iaload, 1)) hf (fun x156 hf => ?_)
          exact WW.sub [1, 2, 3, 4, 5] rfl (t_X12_makes_157 hB hf hk)
        · refine r_aload_n hB 1 rfl (by decide +kernel : decode cX12_makes 138 = .ok (.aload_n 0, 1)) rfl ?_
          refine r_gR hB cf12 0 (by decide) (own := "PulseRemoteModel") rfl (Or.inl k_1115) (by decide +kernel) (by decide +kernel : decode cX12_makes 139 = .ok (.getfield 7, 3)) hf (fun x139 hf => ?_)
          refine r_iload_n hB 4 rfl (by decide +kernel : decode cX12_makes 142 = .ok (.iload_n 3, 1)) rfl ?_
          refine r_iconst hB (v := 5) (by decide +kernel : decode cX12_makes 143 = .ok (.iconst 5, 1)) (by decide +kernel) ?_
          refine r_iadd hB (by decide +kernel : decode cX12_makes 144 = .ok (.iadd, 1)) ?_
          refine r_iald hB (by decide +kernel : decode cX12_makes 145 = .ok (.iaload, 1)) hf (fun x145 hf => ?_)
          refine r_goto hB (tgt := 157) (by decide +kernel : decode cX12_makes 146 = .ok (.goto 11, 3)) (by decide) ?_
          exact WW.sub [1, 2, 3, 4, 5] rfl (t_X12_makes_157 hB hf hk)
      · refine r_aload_n hB 1 rfl (by decide +kernel : decode cX12_makes 176 = .ok (.aload_n 0, 1)) rfl ?_
        refine r_iload hB 0 rfl (by decide +kernel : decode cX12_makes 177 = .ok (.iload 5, 2)) ?_
        refine r_aload_n hB 1 rfl (by decide +kernel : decode cX12_makes 179 = .ok (.aload_n 0, 1)) rfl ?_
        refine r_gR hB cf12 0 (by decide) (own := "PulseRemoteModel") rfl (Or.inl k_1115) (by decide +kernel) (by decide +kernel : decode cX12_makes 180 = .ok (.getfield 7, 3)) hf (fun x180 hf => ?_)
        refine r_iload_n hB 4 rfl (by decide +kernel : decode cX12_makes 183 = .ok (.iload_n 3, 1)) rfl ?_
        refine r_iconst hB (v := 3) (by decide +kernel : decode cX12_makes 184 = .ok (.iconst 3, 1)) (by decide +kernel) ?_
        refine r_iadd hB (by decide +kernel : decode cX12_makes 185 = .ok (.iadd, 1)) ?_
        refine r_iald hB (by decide +kernel : decode cX12_makes 186 = .ok (.iaload, 1)) hf (fun x186 hf => ?_)
        refine r_cVv hB [.int z58.1, .int x186] [] cf12 (own := "PulseRemoteModel") rfl cmX12_lays imX12_lays (Or.inl k_1381) (by decide) rfl rfl rfl (Nat.le_of_ble_eq_true rfl) (by decide +kernel : decode cX12_makes 187 = .ok (.invokevirtual 186, 3)) (fun z hz => m_X12_lays _ _ _ _ hz) rfl hf (fun z187 hf => ?_)
        refine r_aload_n hB 1 rfl (by decide +kernel : decode cX12_makes 190 = .ok (.aload_n 0, 1)) rfl ?_
        refine r_iload hB 0 rfl (by decide +kernel : decode cX12_makes 191 = .ok (.iload 5, 2)) ?_
        refine r_if_ne hB (tgt := 200) (by decide +kernel : decode cX12_makes 193 = .ok (.ifCond .ne 7, 3)) (by decide) hf (fun _ hf => ?_) (fun _ hf => ?_)
        · refine r_iconst hB (v := 1) (by decide +kernel : decode cX12_makes 196 = .ok (.iconst 1, 1)) (by decide +kernel) ?_
          refine r_goto hB (tgt := 201) (by decide +kernel : decode cX12_makes 197 = .ok (.goto 4, 3)) (by decide) ?_
          exact WW.sub [1, 2, 3, 4, 5] rfl (t_X12_makes_201 hB hf hk)
        · refine r_iconst hB (v := 0) (by decide +kernel : decode cX12_makes 200 = .ok (.iconst 0, 1)) (by decide +kernel) ?_
          exact WW.sub [1, 2, 3, 4, 5] rfl (t_X12_makes_201 hB hf hk)
set_option maxHeartbeats 4000000 in
set_option maxRecDepth 100000 in
theorem t_X12_makes_39 {X : BX} {D : va_G} {cy : Nat → ClassId} {b : Nat} {r : Option Value} {μ' : MS} (hB : BB X D cy b yX12_makes cX12_makes 6 none rmX12_makes) {l0 : Nat} {l1 : Int32} {l2 : Int32} {l3 : Int32} {l4 : Int32} {μ : MS} {z : MS} (hf : f_X12_makes_39 l0 l1 l2 l3 l4 μ = some z) (hk : (fun z : MS => r = none ∧ μ' = z) z) : WW X D cy b r μ' 6 0 0 39 [(0, .ref (b + l0)), (1, .int l1), (2, .int l2), (3, .int l3), (4, .int l4)] [] μ :=
  lp_ind (P := fun s : Nat × Int32 × Int32 × Int32 × Int32 × MS => WW X D cy b r μ' 6 0 0 39 [(0, .ref (b + s.1)), (1, .int s.2.1), (2, .int s.2.2.1), (3, .int s.2.2.2.1), (4, .int s.2.2.2.2.1)] [] s.2.2.2.2.2) (Q := (fun z : MS => r = none ∧ μ' = z)) (fun s z hz hk => t_X12_makes_39_b hB hz hk) (l0, l1, l2, l3, l4, μ) z hf hk
set_option maxHeartbeats 4000000 in
set_option maxRecDepth 100000 in
theorem t_X12_makes_0 {X : BX} {D : va_G} {cy : Nat → ClassId} {b : Nat} {r : Option Value} {μ' : MS} (hB : BB X D cy b yX12_makes cX12_makes 6 none rmX12_makes) {l0 : Nat} {l1 : Int32} {l2 : Int32} {μ : MS} {z : MS} (hf : f_X12_makes l0 l1 l2 μ = some z) (hk : (fun z : MS => r = none ∧ μ' = z) z) : WW X D cy b r μ' 6 0 0 0 [(0, .ref (b + l0)), (1, .int l1), (2, .int l2)] [] μ := by
  unfold f_X12_makes at hf
  refine r_iload_n hB 1 rfl (by decide +kernel : decode cX12_makes 0 = .ok (.iload_n 1, 1)) rfl ?_
  refine r_cSi hB [.int l1] [] (own := "PulseRemoteModel") rfl cmX12_at smX12_at (Or.inl ⟨rfl, k_1244⟩) (by decide) rfl rfl rfl (Nat.le_of_ble_eq_true rfl) (by decide +kernel : decode cX12_makes 1 = .ok (.invokestatic 72, 3)) (fun z hz => m_X12_at _ _ _ _ hz) rfl hf (fun z1 hf => ?_)
  refine r_istore_n hB (by decide +kernel : decode cX12_makes 4 = .ok (.istore_n 3, 1)) rfl (by decide) rfl ?_
  refine ww_lv (lv' := [(3, .int z1.1), (0, .ref (b + l0)), (1, .int l1), (2, .int l2)]) rfl ?_
  refine r_aload_n hB 1 rfl (by decide +kernel : decode cX12_makes 5 = .ok (.aload_n 0, 1)) rfl ?_
  refine r_iconst hB (v := 0) (by decide +kernel : decode cX12_makes 6 = .ok (.iconst 0, 1)) (by decide +kernel) ?_
  refine r_pI hB cf12 12 (by decide) (own := "PulseRemoteModel") rfl (Or.inl k_1127) (Or.inl rfl) rfl (by decide +kernel : decode cX12_makes 7 = .ok (.putfield 179, 3)) hf (fun m7 hf => ?_)
  refine r_aload_n hB 1 rfl (by decide +kernel : decode cX12_makes 10 = .ok (.aload_n 0, 1)) rfl ?_
  refine r_iconst hB (v := 1) (by decide +kernel : decode cX12_makes 11 = .ok (.iconst 1, 1)) (by decide +kernel) ?_
  refine r_aload_n hB 1 rfl (by decide +kernel : decode cX12_makes 12 = .ok (.aload_n 0, 1)) rfl ?_
  refine r_gR hB cf12 0 (by decide) (own := "PulseRemoteModel") rfl (Or.inl k_1115) (by decide +kernel) (by decide +kernel : decode cX12_makes 13 = .ok (.getfield 7, 3)) hf (fun x13 hf => ?_)
  refine r_iload_n hB 0 rfl (by decide +kernel : decode cX12_makes 16 = .ok (.iload_n 3, 1)) rfl ?_
  refine r_iconst hB (v := 1) (by decide +kernel : decode cX12_makes 17 = .ok (.iconst 1, 1)) (by decide +kernel) ?_
  refine r_iadd hB (by decide +kernel : decode cX12_makes 18 = .ok (.iadd, 1)) ?_
  refine r_iald hB (by decide +kernel : decode cX12_makes 19 = .ok (.iaload, 1)) hf (fun x19 hf => ?_)
  refine r_cVv hB [.int 1, .int x19] [] cf12 (own := "PulseRemoteModel") rfl cmX12_lays imX12_lays (Or.inl k_1381) (by decide) rfl rfl rfl (Nat.le_of_ble_eq_true rfl) (by decide +kernel : decode cX12_makes 20 = .ok (.invokevirtual 186, 3)) (fun z hz => m_X12_lays _ _ _ _ hz) rfl hf (fun z20 hf => ?_)
  refine r_aload_n hB 1 rfl (by decide +kernel : decode cX12_makes 23 = .ok (.aload_n 0, 1)) rfl ?_
  refine r_iconst hB (v := 0) (by decide +kernel : decode cX12_makes 24 = .ok (.iconst 0, 1)) (by decide +kernel) ?_
  refine r_aload_n hB 1 rfl (by decide +kernel : decode cX12_makes 25 = .ok (.aload_n 0, 1)) rfl ?_
  refine r_gR hB cf12 0 (by decide) (own := "PulseRemoteModel") rfl (Or.inl k_1115) (by decide +kernel) (by decide +kernel : decode cX12_makes 26 = .ok (.getfield 7, 3)) hf (fun x26 hf => ?_)
  refine r_iload_n hB 0 rfl (by decide +kernel : decode cX12_makes 29 = .ok (.iload_n 3, 1)) rfl ?_
  refine r_iconst hB (v := 2) (by decide +kernel : decode cX12_makes 30 = .ok (.iconst 2, 1)) (by decide +kernel) ?_
  refine r_iadd hB (by decide +kernel : decode cX12_makes 31 = .ok (.iadd, 1)) ?_
  refine r_iald hB (by decide +kernel : decode cX12_makes 32 = .ok (.iaload, 1)) hf (fun x32 hf => ?_)
  refine r_cVv hB [.int 0, .int x32] [] cf12 (own := "PulseRemoteModel") rfl cmX12_lays imX12_lays (Or.inl k_1381) (by decide) rfl rfl rfl (Nat.le_of_ble_eq_true rfl) (by decide +kernel : decode cX12_makes 33 = .ok (.invokevirtual 186, 3)) (fun z hz => m_X12_lays _ _ _ _ hz) rfl hf (fun z33 hf => ?_)
  refine r_iconst hB (v := 0) (by decide +kernel : decode cX12_makes 36 = .ok (.iconst 0, 1)) (by decide +kernel) ?_
  refine r_istore hB (by decide +kernel : decode cX12_makes 37 = .ok (.istore 4, 2)) (by decide) rfl ?_
  refine ww_lv (lv' := [(4, .int 0), (3, .int z1.1), (0, .ref (b + l0)), (1, .int l1), (2, .int l2)]) rfl ?_
  exact WW.sub [2, 3, 4, 1, 0] rfl (t_X12_makes_39 hB hf hk)
theorem m_X12_makes (l : Launch) (D : va_G) (cy : Nat → ClassId) (b : Nat) {l0 : Nat} {l1 : Int32} {l2 : Int32} {μ : MS} {z : MS} (hf : f_X12_makes l0 l1 l2 μ = some z) : Met l yX12_makes (.code yX12_makes cX12_makes 6 none :: GW) rmX12_makes (Pw D cy b [.ref (b + l0), .int l1, .int l2] μ) (Qw D cy b (none) (z)) rmX12_makes.cells rmX12_makes.slots (fun q => b ≤ q) :=
  met_of (by decide) (Nat.le_of_ble_eq_true rfl) (fun X hB _ => (t_X12_makes_0 hB hf ⟨rfl, rfl⟩))
