/-! printed by wip/p35/gen.py -/
-- PulseRemote.inRange(III)Z
set_option maxHeartbeats 4000000 in
set_option maxRecDepth 100000 in
theorem t_X11_inRange_0 {X : BX} {D : va_G} {cy : Nat → ClassId} {b : Nat} {r : Option Value} {μ' : MS} (hB : BB X D cy b yX11_inRange cX11_inRange 3 (some .boolean) rmX11_inRange) {l0 : Int32} {l1 : Int32} {l2 : Int32} {μ : MS} {z : (Int32 × MS)} (hf : f_X11_inRange l0 l1 l2 μ = some z) (hk : (fun z : Int32 × MS => r = some (.int z.1) ∧ μ' = z.2) z) : WW X D cy b r μ' 3 0 0 0 [(0, .int l0), (1, .int l1), (2, .int l2)] [] μ := by
  unfold f_X11_inRange at hf
  refine r_iload_n hB 0 rfl (by decide +kernel : decode cX11_inRange 0 = .ok (.iload_n 0, 1)) rfl ?_
  refine r_iload_n hB 1 rfl (by decide +kernel : decode cX11_inRange 1 = .ok (.iload_n 1, 1)) rfl ?_
  refine r_icmp_lt hB (tgt := 14) (by decide +kernel : decode cX11_inRange 2 = .ok (.if_icmp .lt 12, 3)) (by decide) hf (fun _ hf => ?_) (fun _ hf => ?_)
  · refine r_iconst hB (v := 0) (by decide +kernel : decode cX11_inRange 14 = .ok (.iconst 0, 1)) (by decide +kernel) ?_
    obtain rfl := Option.some.inj hf
    obtain ⟨rfl, rfl⟩ := hk
    exact r_zret hB (Or.inl rfl) (by decide +kernel : decode cX11_inRange 15 = .ok (.ireturn, 1))
  · refine r_iload_n hB 0 rfl (by decide +kernel : decode cX11_inRange 5 = .ok (.iload_n 0, 1)) rfl ?_
    refine r_iload_n hB 2 rfl (by decide +kernel : decode cX11_inRange 6 = .ok (.iload_n 2, 1)) rfl ?_
    refine r_icmp_gt hB (tgt := 14) (by decide +kernel : decode cX11_inRange 7 = .ok (.if_icmp .gt 7, 3)) (by decide) hf (fun _ hf => ?_) (fun _ hf => ?_)
    · refine r_iconst hB (v := 0) (by decide +kernel : decode cX11_inRange 14 = .ok (.iconst 0, 1)) (by decide +kernel) ?_
      obtain rfl := Option.some.inj hf
      obtain ⟨rfl, rfl⟩ := hk
      exact r_zret hB (Or.inl rfl) (by decide +kernel : decode cX11_inRange 15 = .ok (.ireturn, 1))
    · refine r_iconst hB (v := 1) (by decide +kernel : decode cX11_inRange 10 = .ok (.iconst 1, 1)) (by decide +kernel) ?_
      refine r_goto hB (tgt := 15) (by decide +kernel : decode cX11_inRange 11 = .ok (.goto 4, 3)) (by decide) ?_
      obtain rfl := Option.some.inj hf
      obtain ⟨rfl, rfl⟩ := hk
      exact r_zret hB (Or.inr rfl) (by decide +kernel : decode cX11_inRange 15 = .ok (.ireturn, 1))
theorem m_X11_inRange (l : Launch) (D : va_G) (cy : Nat → ClassId) (b : Nat) {l0 : Int32} {l1 : Int32} {l2 : Int32} {μ : MS} {z : Int32 × MS} (hf : f_X11_inRange l0 l1 l2 μ = some z) : Met l yX11_inRange (.code yX11_inRange cX11_inRange 3 (some .boolean) :: GW) rmX11_inRange (Pw D cy b [.int l0, .int l1, .int l2] μ) (Qw D cy b (some (.int z.1)) (z.2)) rmX11_inRange.cells rmX11_inRange.slots (fun q => b ≤ q) :=
  met_of (by decide) (Nat.le_of_ble_eq_true rfl) (fun X hB _ => (t_X11_inRange_0 hB hf ⟨rfl, rfl⟩))
-- PulseRemote$Table.protocolsFull()Z
set_option maxHeartbeats 4000000 in
set_option maxRecDepth 100000 in
theorem t_X8_protocolsFull_0 {X : BX} {D : va_G} {cy : Nat → ClassId} {b : Nat} {r : Option Value} {μ' : MS} (hB : BB X D cy b yX8_protocolsFull cX8_protocolsFull 1 (some .boolean) rmX8_protocolsFull) {l0 : Nat} {μ : MS} {z : (Int32 × MS)} (hf : f_X8_protocolsFull l0 μ = some z) (hk : (fun z : Int32 × MS => r = some (.int z.1) ∧ μ' = z.2) z) : WW X D cy b r μ' 1 0 0 0 [(0, .ref (b + l0))] [] μ := by
  unfold f_X8_protocolsFull at hf
  refine r_aload_n hB 0 rfl (by decide +kernel : decode cX8_protocolsFull 0 = .ok (.aload_n 0, 1)) rfl ?_
  refine r_gI hB cf8 1 (by decide) (own := "PulseRemote$Table") rfl (Or.inl k_111) (by decide +kernel) (by decide +kernel : decode cX8_protocolsFull 1 = .ok (.getfield 35, 3)) hf (fun x1 hf => ?_)
  refine r_bipush hB (v := 6) (by decide +kernel : decode cX8_protocolsFull 4 = .ok (.bipush 6, 2)) (by decide +kernel) ?_
  refine r_icmp_lt hB (tgt := 13) (by decide +kernel : decode cX8_protocolsFull 6 = .ok (.if_icmp .lt 7, 3)) (by decide) hf (fun _ hf => ?_) (fun _ hf => ?_)
  · refine r_iconst hB (v := 0) (by decide +kernel : decode cX8_protocolsFull 13 = .ok (.iconst 0, 1)) (by decide +kernel) ?_
    obtain rfl := Option.some.inj hf
    obtain ⟨rfl, rfl⟩ := hk
    exact r_zret hB (Or.inl rfl) (by decide +kernel : decode cX8_protocolsFull 14 = .ok (.ireturn, 1))
  · refine r_iconst hB (v := 1) (by decide +kernel : decode cX8_protocolsFull 9 = .ok (.iconst 1, 1)) (by decide +kernel) ?_
    refine r_goto hB (tgt := 14) (by decide +kernel : decode cX8_protocolsFull 10 = .ok (.goto 4, 3)) (by decide) ?_
    obtain rfl := Option.some.inj hf
    obtain ⟨rfl, rfl⟩ := hk
    exact r_zret hB (Or.inr rfl) (by decide +kernel : decode cX8_protocolsFull 14 = .ok (.ireturn, 1))
theorem m_X8_protocolsFull (l : Launch) (D : va_G) (cy : Nat → ClassId) (b : Nat) {l0 : Nat} {μ : MS} {z : Int32 × MS} (hf : f_X8_protocolsFull l0 μ = some z) : Met l yX8_protocolsFull (.code yX8_protocolsFull cX8_protocolsFull 1 (some .boolean) :: GW) rmX8_protocolsFull (Pw D cy b [.ref (b + l0)] μ) (Qw D cy b (some (.int z.1)) (z.2)) rmX8_protocolsFull.cells rmX8_protocolsFull.slots (fun q => b ≤ q) :=
  met_of (by decide) (Nat.le_of_ble_eq_true rfl) (fun X hB _ => (t_X8_protocolsFull_0 hB hf ⟨rfl, rfl⟩))
-- PulseRemote$Protocol.useShape(IIII)V
set_option maxHeartbeats 4000000 in
set_option maxRecDepth 100000 in
theorem t_X6_useShape_0 {X : BX} {D : va_G} {cy : Nat → ClassId} {b : Nat} {r : Option Value} {μ' : MS} (hB : BB X D cy b yX6_useShape cX6_useShape 5 none rmX6_useShape) {l0 : Nat} {l1 : Int32} {l2 : Int32} {l3 : Int32} {l4 : Int32} {μ : MS} {z : MS} (hf : f_X6_useShape l0 l1 l2 l3 l4 μ = some z) (hk : (fun z : MS => r = none ∧ μ' = z) z) : WW X D cy b r μ' 5 0 0 0 [(0, .ref (b + l0)), (1, .int l1), (2, .int l2), (3, .int l3), (4, .int l4)] [] μ := by
  unfold f_X6_useShape at hf
  refine r_aload_n hB 0 rfl (by decide +kernel : decode cX6_useShape 0 = .ok (.aload_n 0, 1)) rfl ?_
  refine r_iload_n hB 1 rfl (by decide +kernel : decode cX6_useShape 1 = .ok (.iload_n 1, 1)) rfl ?_
  refine r_pI hB cf6 0 (by decide) (own := "PulseRemote$Protocol") rfl (Or.inl k_63) (Or.inl rfl) rfl (by decide +kernel : decode cX6_useShape 2 = .ok (.putfield 9, 3)) hf (fun m2 hf => ?_)
  refine r_aload_n hB 0 rfl (by decide +kernel : decode cX6_useShape 5 = .ok (.aload_n 0, 1)) rfl ?_
  refine r_iload_n hB 2 rfl (by decide +kernel : decode cX6_useShape 6 = .ok (.iload_n 2, 1)) rfl ?_
  refine r_pI hB cf6 6 (by decide) (own := "PulseRemote$Protocol") rfl (Or.inl k_81) (Or.inl rfl) rfl (by decide +kernel : decode cX6_useShape 7 = .ok (.putfield 15, 3)) hf (fun m7 hf => ?_)
  refine r_aload_n hB 0 rfl (by decide +kernel : decode cX6_useShape 10 = .ok (.aload_n 0, 1)) rfl ?_
  refine r_iload_n hB 3 rfl (by decide +kernel : decode cX6_useShape 11 = .ok (.iload_n 3, 1)) rfl ?_
  refine r_pI hB cf6 7 (by decide) (own := "PulseRemote$Protocol") rfl (Or.inl k_84) (Or.inl rfl) rfl (by decide +kernel : decode cX6_useShape 12 = .ok (.putfield 18, 3)) hf (fun m12 hf => ?_)
  refine r_aload_n hB 0 rfl (by decide +kernel : decode cX6_useShape 15 = .ok (.aload_n 0, 1)) rfl ?_
  refine r_iload hB 4 rfl (by decide +kernel : decode cX6_useShape 16 = .ok (.iload 4, 2)) ?_
  refine r_pI hB cf6 8 (by decide) (own := "PulseRemote$Protocol") rfl (Or.inl k_86) (Or.inl rfl) rfl (by decide +kernel : decode cX6_useShape 18 = .ok (.putfield 21, 3)) hf (fun m18 hf => ?_)
  obtain rfl := Option.some.inj hf
  obtain ⟨rfl, rfl⟩ := hk
  exact r_vret hB (by decide +kernel : decode cX6_useShape 21 = .ok (.return_, 1))
theorem m_X6_useShape (l : Launch) (D : va_G) (cy : Nat → ClassId) (b : Nat) {l0 : Nat} {l1 : Int32} {l2 : Int32} {l3 : Int32} {l4 : Int32} {μ : MS} {z : MS} (hf : f_X6_useShape l0 l1 l2 l3 l4 μ = some z) : Met l yX6_useShape (.code yX6_useShape cX6_useShape 5 none :: GW) rmX6_useShape (Pw D cy b [.ref (b + l0), .int l1, .int l2, .int l3, .int l4] μ) (Qw D cy b (none) (z)) rmX6_useShape.cells rmX6_useShape.slots (fun q => b ≤ q) :=
  met_of (by decide) (Nat.le_of_ble_eq_true rfl) (fun X hB _ => (t_X6_useShape_0 hB hf ⟨rfl, rfl⟩))
-- PulseRemote$Protocol.useLengths(IIIII)V
set_option maxHeartbeats 4000000 in
set_option maxRecDepth 100000 in
theorem t_X6_useLengths_0 {X : BX} {D : va_G} {cy : Nat → ClassId} {b : Nat} {r : Option Value} {μ' : MS} (hB : BB X D cy b yX6_useLengths cX6_useLengths 6 none rmX6_useLengths) {l0 : Nat} {l1 : Int32} {l2 : Int32} {l3 : Int32} {l4 : Int32} {l5 : Int32} {μ : MS} {z : MS} (hf : f_X6_useLengths l0 l1 l2 l3 l4 l5 μ = some z) (hk : (fun z : MS => r = none ∧ μ' = z) z) : WW X D cy b r μ' 6 0 0 0 [(0, .ref (b + l0)), (1, .int l1), (2, .int l2), (3, .int l3), (4, .int l4), (5, .int l5)] [] μ := by
  unfold f_X6_useLengths at hf
  refine r_aload_n hB 0 rfl (by decide +kernel : decode cX6_useLengths 0 = .ok (.aload_n 0, 1)) rfl ?_
  refine r_iload_n hB 1 rfl (by decide +kernel : decode cX6_useLengths 1 = .ok (.iload_n 1, 1)) rfl ?_
  refine r_pI hB cf6 1 (by decide) (own := "PulseRemote$Protocol") rfl (Or.inl k_66) (Or.inl rfl) rfl (by decide +kernel : decode cX6_useLengths 2 = .ok (.putfield 24, 3)) hf (fun m2 hf => ?_)
  refine r_aload_n hB 0 rfl (by decide +kernel : decode cX6_useLengths 5 = .ok (.aload_n 0, 1)) rfl ?_
  refine r_iload_n hB 2 rfl (by decide +kernel : decode cX6_useLengths 6 = .ok (.iload_n 2, 1)) rfl ?_
  refine r_pI hB cf6 2 (by decide) (own := "PulseRemote$Protocol") rfl (Or.inl k_69) (Or.inl rfl) rfl (by decide +kernel : decode cX6_useLengths 7 = .ok (.putfield 27, 3)) hf (fun m7 hf => ?_)
  refine r_aload_n hB 0 rfl (by decide +kernel : decode cX6_useLengths 10 = .ok (.aload_n 0, 1)) rfl ?_
  refine r_iload_n hB 3 rfl (by decide +kernel : decode cX6_useLengths 11 = .ok (.iload_n 3, 1)) rfl ?_
  refine r_pI hB cf6 3 (by decide) (own := "PulseRemote$Protocol") rfl (Or.inl k_72) (Or.inl rfl) rfl (by decide +kernel : decode cX6_useLengths 12 = .ok (.putfield 30, 3)) hf (fun m12 hf => ?_)
  refine r_aload_n hB 0 rfl (by decide +kernel : decode cX6_useLengths 15 = .ok (.aload_n 0, 1)) rfl ?_
  refine r_iload hB 4 rfl (by decide +kernel : decode cX6_useLengths 16 = .ok (.iload 4, 2)) ?_
  refine r_pI hB cf6 4 (by decide) (own := "PulseRemote$Protocol") rfl (Or.inl k_75) (Or.inl rfl) rfl (by decide +kernel : decode cX6_useLengths 18 = .ok (.putfield 33, 3)) hf (fun m18 hf => ?_)
  refine r_aload_n hB 0 rfl (by decide +kernel : decode cX6_useLengths 21 = .ok (.aload_n 0, 1)) rfl ?_
  refine r_iload hB 5 rfl (by decide +kernel : decode cX6_useLengths 22 = .ok (.iload 5, 2)) ?_
  refine r_pI hB cf6 5 (by decide) (own := "PulseRemote$Protocol") rfl (Or.inl k_78) (Or.inl rfl) rfl (by decide +kernel : decode cX6_useLengths 24 = .ok (.putfield 36, 3)) hf (fun m24 hf => ?_)
  obtain rfl := Option.some.inj hf
  obtain ⟨rfl, rfl⟩ := hk
  exact r_vret hB (by decide +kernel : decode cX6_useLengths 27 = .ok (.return_, 1))
theorem m_X6_useLengths (l : Launch) (D : va_G) (cy : Nat → ClassId) (b : Nat) {l0 : Nat} {l1 : Int32} {l2 : Int32} {l3 : Int32} {l4 : Int32} {l5 : Int32} {μ : MS} {z : MS} (hf : f_X6_useLengths l0 l1 l2 l3 l4 l5 μ = some z) : Met l yX6_useLengths (.code yX6_useLengths cX6_useLengths 6 none :: GW) rmX6_useLengths (Pw D cy b [.ref (b + l0), .int l1, .int l2, .int l3, .int l4, .int l5] μ) (Qw D cy b (none) (z)) rmX6_useLengths.cells rmX6_useLengths.slots (fun q => b ≤ q) :=
  met_of (by decide) (Nat.le_of_ble_eq_true rfl) (fun X hB _ => (t_X6_useLengths_0 hB hf ⟨rfl, rfl⟩))
-- PulseRemote$Protocol.copyFrom(LPulseRemote$Protocol;)V
set_option maxHeartbeats 4000000 in
set_option maxRecDepth 100000 in
theorem t_X6_copyFrom_0 {X : BX} {D : va_G} {cy : Nat → ClassId} {b : Nat} {r : Option Value} {μ' : MS} (hB : BB X D cy b yX6_copyFrom cX6_copyFrom 2 none rmX6_copyFrom) {l0 : Nat} {l1 : Nat} {μ : MS} {z : MS} (hf : f_X6_copyFrom l0 l1 μ = some z) (hk : (fun z : MS => r = none ∧ μ' = z) z) : WW X D cy b r μ' 2 0 0 0 [(0, .ref (b + l0)), (1, .ref (b + l1))] [] μ := by
  unfold f_X6_copyFrom at hf
  refine r_aload_n hB 0 rfl (by decide +kernel : decode cX6_copyFrom 0 = .ok (.aload_n 0, 1)) rfl ?_
  refine r_aload_n hB 1 rfl (by decide +kernel : decode cX6_copyFrom 1 = .ok (.aload_n 1, 1)) rfl ?_
  refine r_gI hB cf6 0 (by decide) (own := "PulseRemote$Protocol") rfl (Or.inl k_63) (by decide +kernel) (by decide +kernel : decode cX6_copyFrom 2 = .ok (.getfield 9, 3)) hf (fun x2 hf => ?_)
  refine r_aload_n hB 1 rfl (by decide +kernel : decode cX6_copyFrom 5 = .ok (.aload_n 1, 1)) rfl ?_
  refine r_gI hB cf6 6 (by decide) (own := "PulseRemote$Protocol") rfl (Or.inl k_81) (by decide +kernel) (by decide +kernel : decode cX6_copyFrom 6 = .ok (.getfield 15, 3)) hf (fun x6 hf => ?_)
  refine r_aload_n hB 1 rfl (by decide +kernel : decode cX6_copyFrom 9 = .ok (.aload_n 1, 1)) rfl ?_
  refine r_gI hB cf6 7 (by decide) (own := "PulseRemote$Protocol") rfl (Or.inl k_84) (by decide +kernel) (by decide +kernel : decode cX6_copyFrom 10 = .ok (.getfield 18, 3)) hf (fun x10 hf => ?_)
  refine r_aload_n hB 1 rfl (by decide +kernel : decode cX6_copyFrom 13 = .ok (.aload_n 1, 1)) rfl ?_
  refine r_gI hB cf6 8 (by decide) (own := "PulseRemote$Protocol") rfl (Or.inl k_86) (by decide +kernel) (by decide +kernel : decode cX6_copyFrom 14 = .ok (.getfield 21, 3)) hf (fun x14 hf => ?_)
  refine r_cVv hB [.int x2, .int x6, .int x10, .int x14] [] cf6 (own := "PulseRemote$Protocol") rfl cmX6_useShape imX6_useShape (Or.inl k_459) (by decide) rfl rfl rfl (Nat.le_of_ble_eq_true rfl) (by decide +kernel : decode cX6_copyFrom 17 = .ok (.invokevirtual 39, 3)) (fun z hz => m_X6_useShape _ _ _ _ hz) rfl hf (fun z17 hf => ?_)
  refine r_aload_n hB 0 rfl (by decide +kernel : decode cX6_copyFrom 20 = .ok (.aload_n 0, 1)) rfl ?_
  refine r_aload_n hB 1 rfl (by decide +kernel : decode cX6_copyFrom 21 = .ok (.aload_n 1, 1)) rfl ?_
  refine r_gI hB cf6 1 (by decide) (own := "PulseRemote$Protocol") rfl (Or.inl k_66) (by decide +kernel) (by decide +kernel : decode cX6_copyFrom 22 = .ok (.getfield 24, 3)) hf (fun x22 hf => ?_)
  refine r_aload_n hB 1 rfl (by decide +kernel : decode cX6_copyFrom 25 = .ok (.aload_n 1, 1)) rfl ?_
  refine r_gI hB cf6 2 (by decide) (own := "PulseRemote$Protocol") rfl (Or.inl k_69) (by decide +kernel) (by decide +kernel : decode cX6_copyFrom 26 = .ok (.getfield 27, 3)) hf (fun x26 hf => ?_)
  refine r_aload_n hB 1 rfl (by decide +kernel : decode cX6_copyFrom 29 = .ok (.aload_n 1, 1)) rfl ?_
  refine r_gI hB cf6 3 (by decide) (own := "PulseRemote$Protocol") rfl (Or.inl k_72) (by decide +kernel) (by decide +kernel : decode cX6_copyFrom 30 = .ok (.getfield 30, 3)) hf (fun x30 hf => ?_)
  refine r_aload_n hB 1 rfl (by decide +kernel : decode cX6_copyFrom 33 = .ok (.aload_n 1, 1)) rfl ?_
  refine r_gI hB cf6 4 (by decide) (own := "PulseRemote$Protocol") rfl (Or.inl k_75) (by decide +kernel) (by decide +kernel : decode cX6_copyFrom 34 = .ok (.getfield 33, 3)) hf (fun x34 hf => ?_)
  refine r_aload_n hB 1 rfl (by decide +kernel : decode cX6_copyFrom 37 = .ok (.aload_n 1, 1)) rfl ?_
  refine r_gI hB cf6 5 (by decide) (own := "PulseRemote$Protocol") rfl (Or.inl k_78) (by decide +kernel) (by decide +kernel : decode cX6_copyFrom 38 = .ok (.getfield 36, 3)) hf (fun x38 hf => ?_)
  refine r_cVv hB [.int x22, .int x26, .int x30, .int x34, .int x38] [] cf6 (own := "PulseRemote$Protocol") rfl cmX6_useLengths imX6_useLengths (Or.inl k_463) (by decide) rfl rfl rfl (Nat.le_of_ble_eq_true rfl) (by decide +kernel : decode cX6_copyFrom 41 = .ok (.invokevirtual 43, 3)) (fun z hz => m_X6_useLengths _ _ _ _ hz) rfl hf (fun z41 hf => ?_)
  obtain rfl := Option.some.inj hf
  obtain ⟨rfl, rfl⟩ := hk
  exact r_vret hB (by decide +kernel : decode cX6_copyFrom 44 = .ok (.return_, 1))
theorem m_X6_copyFrom (l : Launch) (D : va_G) (cy : Nat → ClassId) (b : Nat) {l0 : Nat} {l1 : Nat} {μ : MS} {z : MS} (hf : f_X6_copyFrom l0 l1 μ = some z) : Met l yX6_copyFrom (.code yX6_copyFrom cX6_copyFrom 2 none :: GW) rmX6_copyFrom (Pw D cy b [.ref (b + l0), .ref (b + l1)] μ) (Qw D cy b (none) (z)) rmX6_copyFrom.cells rmX6_copyFrom.slots (fun q => b ≤ q) :=
  met_of (by decide) (Nat.le_of_ble_eq_true rfl) (fun X hB _ => (t_X6_copyFrom_0 hB hf ⟨rfl, rfl⟩))
-- PulseRemote$Table.copyFrom(LPulseRemote$Table;)V
set_option maxHeartbeats 4000000 in
set_option maxRecDepth 100000 in
theorem t_X8_copyFrom_29 {X : BX} {D : va_G} {cy : Nat → ClassId} {b : Nat} {r : Option Value} {μ' : MS} (hB : BB X D cy b yX8_copyFrom cX8_copyFrom 3 none rmX8_copyFrom) {l0 : Nat} {l1 : Nat} {μ : MS} {z : MS} (hf : f_X8_copyFrom_29 l0 l1 μ = some z) (hk : (fun z : MS => r = none ∧ μ' = z) z) : WW X D cy b r μ' 3 0 0 29 [(0, .ref (b + l0)), (1, .ref (b + l1))] [] μ := by
  unfold f_X8_copyFrom_29 at hf
  refine r_aload_n hB 1 rfl (by decide +kernel : decode cX8_copyFrom 29 = .ok (.aload_n 1, 1)) rfl ?_
  refine r_gR hB cf8 2 (by decide) (own := "PulseRemote$Table") rfl (Or.inl k_114) (by decide +kernel) (by decide +kernel : decode cX8_copyFrom 30 = .ok (.getfield 17, 3)) hf (fun x30 hf => ?_)
  refine r_iconst hB (v := 0) (by decide +kernel : decode cX8_copyFrom 33 = .ok (.iconst 0, 1)) (by decide +kernel) ?_
  refine r_aload_n hB 0 rfl (by decide +kernel : decode cX8_copyFrom 34 = .ok (.aload_n 0, 1)) rfl ?_
  refine r_gR hB cf8 2 (by decide) (own := "PulseRemote$Table") rfl (Or.inl k_114) (by decide +kernel) (by decide +kernel : decode cX8_copyFrom 35 = .ok (.getfield 17, 3)) hf (fun x35 hf => ?_)
  refine r_iconst hB (v := 0) (by decide +kernel : decode cX8_copyFrom 38 = .ok (.iconst 0, 1)) (by decide +kernel) ?_
  refine r_bipush hB (v := 12) (by decide +kernel : decode cX8_copyFrom 39 = .ok (.bipush 12, 2)) (by decide +kernel) ?_
  refine r_copyI hB (own := "PulseRemote$Table") rfl k_467 k_469 k_468 k_35 (by decide) (Nat.le_of_ble_eq_true rfl) (by decide +kernel : decode cX8_copyFrom 41 = .ok (.invokestatic 29, 3)) hf (fun m41 hf => ?_)
  refine r_aload_n hB 1 rfl (by decide +kernel : decode cX8_copyFrom 44 = .ok (.aload_n 1, 1)) rfl ?_
  refine r_gR hB cf8 3 (by decide) (own := "PulseRemote$Table") rfl (Or.inl k_115) (by decide +kernel) (by decide +kernel : decode cX8_copyFrom 45 = .ok (.getfield 21, 3)) hf (fun x45 hf => ?_)
  refine r_iconst hB (v := 0) (by decide +kernel : decode cX8_copyFrom 48 = .ok (.iconst 0, 1)) (by decide +kernel) ?_
  refine r_aload_n hB 0 rfl (by decide +kernel : decode cX8_copyFrom 49 = .ok (.aload_n 0, 1)) rfl ?_
  refine r_gR hB cf8 3 (by decide) (own := "PulseRemote$Table") rfl (Or.inl k_115) (by decide +kernel) (by decide +kernel : decode cX8_copyFrom 50 = .ok (.getfield 21, 3)) hf (fun x50 hf => ?_)
  refine r_iconst hB (v := 0) (by decide +kernel : decode cX8_copyFrom 53 = .ok (.iconst 0, 1)) (by decide +kernel) ?_
  refine r_bipush hB (v := 12) (by decide +kernel : decode cX8_copyFrom 54 = .ok (.bipush 12, 2)) (by decide +kernel) ?_
  refine r_copyI hB (own := "PulseRemote$Table") rfl k_467 k_469 k_468 k_35 (by decide) (Nat.le_of_ble_eq_true rfl) (by decide +kernel : decode cX8_copyFrom 56 = .ok (.invokestatic 29, 3)) hf (fun m56 hf => ?_)
  refine r_aload_n hB 0 rfl (by decide +kernel : decode cX8_copyFrom 59 = .ok (.aload_n 0, 1)) rfl ?_
  refine r_aload_n hB 1 rfl (by decide +kernel : decode cX8_copyFrom 60 = .ok (.aload_n 1, 1)) rfl ?_
  refine r_gI hB cf8 1 (by decide) (own := "PulseRemote$Table") rfl (Or.inl k_111) (by decide +kernel) (by decide +kernel : decode cX8_copyFrom 61 = .ok (.getfield 35, 3)) hf (fun x61 hf => ?_)
  refine r_pI hB cf8 1 (by decide) (own := "PulseRemote$Table") rfl (Or.inl k_111) (Or.inl rfl) rfl (by decide +kernel : decode cX8_copyFrom 64 = .ok (.putfield 35, 3)) hf (fun m64 hf => ?_)
  refine r_aload_n hB 0 rfl (by decide +kernel : decode cX8_copyFrom 67 = .ok (.aload_n 0, 1)) rfl ?_
  refine r_aload_n hB 1 rfl (by decide +kernel : decode cX8_copyFrom 68 = .ok (.aload_n 1, 1)) rfl ?_
  refine r_gI hB cf8 4 (by decide) (own := "PulseRemote$Table") rfl (Or.inl k_116) (by decide +kernel) (by decide +kernel : decode cX8_copyFrom 69 = .ok (.getfield 39, 3)) hf (fun x69 hf => ?_)
  refine r_pI hB cf8 4 (by decide) (own := "PulseRemote$Table") rfl (Or.inl k_116) (Or.inl rfl) rfl (by decide +kernel : decode cX8_copyFrom 72 = .ok (.putfield 39, 3)) hf (fun m72 hf => ?_)
  obtain rfl := Option.some.inj hf
  obtain ⟨rfl, rfl⟩ := hk
  exact r_vret hB (by decide +kernel : decode cX8_copyFrom 75 = .ok (.return_, 1))
set_option maxHeartbeats 4000000 in
set_option maxRecDepth 100000 in
theorem t_X8_copyFrom_2_b {X : BX} {D : va_G} {cy : Nat → ClassId} {b : Nat} {r : Option Value} {μ' : MS} (hB : BB X D cy b yX8_copyFrom cX8_copyFrom 3 none rmX8_copyFrom) {l0 : Nat} {l1 : Nat} {l2 : Int32} {μ : MS} {z : ((Nat × Nat × Int32 × MS) ⊕ MS)} (hf : f_X8_copyFrom_2_b l0 l1 l2 μ = some z) (hk : (Sum.elim (fun s : Nat × Nat × Int32 × MS => WW X D cy b r μ' 3 0 0 2 [(0, .ref (b + s.1)), (1, .ref (b + s.2.1)), (2, .int s.2.2.1)] [] s.2.2.2) (fun z : MS => r = none ∧ μ' = z)) z) : WW X D cy b r μ' 3 0 0 2 [(0, .ref (b + l0)), (1, .ref (b + l1)), (2, .int l2)] [] μ := by
  unfold f_X8_copyFrom_2_b at hf
  refine r_iload_n hB 2 rfl (by decide +kernel : decode cX8_copyFrom 2 = .ok (.iload_n 2, 1)) rfl ?_
  refine r_bipush hB (v := 6) (by decide +kernel : decode cX8_copyFrom 3 = .ok (.bipush 6, 2)) (by decide +kernel) ?_
  refine r_icmp_ge hB (tgt := 29) (by decide +kernel : decode cX8_copyFrom 5 = .ok (.if_icmp .ge 24, 3)) (by decide) hf (fun _ hf => ?_) (fun _ hf => ?_)
  · obtain ⟨_, hx0, rfl⟩ := xr_inv hf
    exact WW.sub [0, 1] rfl (t_X8_copyFrom_29 hB hx0 hk)
  · refine r_aload_n hB 0 rfl (by decide +kernel : decode cX8_copyFrom 8 = .ok (.aload_n 0, 1)) rfl ?_
    refine r_gR hB cf8 0 (by decide) (own := "PulseRemote$Table") rfl (Or.inl k_110) (by decide +kernel) (by decide +kernel : decode cX8_copyFrom 9 = .ok (.getfield 11, 3)) hf (fun x9 hf => ?_)
    refine r_iload_n hB 2 rfl (by decide +kernel : decode cX8_copyFrom 12 = .ok (.iload_n 2, 1)) rfl ?_
    refine r_aald hB (t := 18) (C := RX6) (Or.inl ⟨rfl, rfl⟩) (by decide +kernel : decode cX8_copyFrom 13 = .ok (.aaload, 1)) hf (fun x13 hf => ?_)
    refine r_aload_n hB 1 rfl (by decide +kernel : decode cX8_copyFrom 14 = .ok (.aload_n 1, 1)) rfl ?_
    refine r_gR hB cf8 0 (by decide) (own := "PulseRemote$Table") rfl (Or.inl k_110) (by decide +kernel) (by decide +kernel : decode cX8_copyFrom 15 = .ok (.getfield 11, 3)) hf (fun x15 hf => ?_)
    refine r_iload_n hB 2 rfl (by decide +kernel : decode cX8_copyFrom 18 = .ok (.iload_n 2, 1)) rfl ?_
    refine r_aald hB (t := 18) (C := RX6) (Or.inl ⟨rfl, rfl⟩) (by decide +kernel : decode cX8_copyFrom 19 = .ok (.aaload, 1)) hf (fun x19 hf => ?_)
    refine r_cVv hB [.ref (b + x19)] [] cf6 (own := "PulseRemote$Table") rfl cmX6_copyFrom imX6_copyFrom (Or.inl k_455) (by decide) rfl rfl rfl (Nat.le_of_ble_eq_true rfl) (by decide +kernel : decode cX8_copyFrom 20 = .ok (.invokevirtual 25, 3)) (fun z hz => m_X6_copyFrom _ _ _ _ hz) rfl hf (fun z20 hf => ?_)
    refine r_iincB hB 2 rfl (by decide +kernel : decode cX8_copyFrom 23 = .ok (.iinc 2 1, 3)) (w := 1) (by decide +kernel) (by decide) hf (fun v23 hf => ?_)
    refine ww_lv (lv' := [(2, .int v23), (0, .ref (b + l0)), (1, .ref (b + l1))]) rfl ?_
    refine r_goto hB (tgt := 2) (by decide +kernel : decode cX8_copyFrom 26 = .ok (.goto (-24), 3)) (by decide) ?_
    obtain rfl := Option.some.inj hf
    exact WW.sub [1, 2, 0] rfl hk
set_option maxHeartbeats 4000000 in
set_option maxRecDepth 100000 in
theorem t_X8_copyFrom_2 {X : BX} {D : va_G} {cy : Nat → ClassId} {b : Nat} {r : Option Value} {μ' : MS} (hB : BB X D cy b yX8_copyFrom cX8_copyFrom 3 none rmX8_copyFrom) {l0 : Nat} {l1 : Nat} {l2 : Int32} {μ : MS} {z : MS} (hf : f_X8_copyFrom_2 l0 l1 l2 μ = some z) (hk : (fun z : MS => r = none ∧ μ' = z) z) : WW X D cy b r μ' 3 0 0 2 [(0, .ref (b + l0)), (1, .ref (b + l1)), (2, .int l2)] [] μ :=
  lp_ind (P := fun s : Nat × Nat × Int32 × MS => WW X D cy b r μ' 3 0 0 2 [(0, .ref (b + s.1)), (1, .ref (b + s.2.1)), (2, .int s.2.2.1)] [] s.2.2.2) (Q := (fun z : MS => r = none ∧ μ' = z)) (fun s z hz hk => t_X8_copyFrom_2_b hB hz hk) (l0, l1, l2, μ) z hf hk
set_option maxHeartbeats 4000000 in
set_option maxRecDepth 100000 in
theorem t_X8_copyFrom_0 {X : BX} {D : va_G} {cy : Nat → ClassId} {b : Nat} {r : Option Value} {μ' : MS} (hB : BB X D cy b yX8_copyFrom cX8_copyFrom 3 none rmX8_copyFrom) {l0 : Nat} {l1 : Nat} {μ : MS} {z : MS} (hf : f_X8_copyFrom l0 l1 μ = some z) (hk : (fun z : MS => r = none ∧ μ' = z) z) : WW X D cy b r μ' 3 0 0 0 [(0, .ref (b + l0)), (1, .ref (b + l1))] [] μ := by
  unfold f_X8_copyFrom at hf
  refine r_iconst hB (v := 0) (by decide +kernel : decode cX8_copyFrom 0 = .ok (.iconst 0, 1)) (by decide +kernel) ?_
  refine r_istore_n hB (by decide +kernel : decode cX8_copyFrom 1 = .ok (.istore_n 2, 1)) rfl (by decide) rfl ?_
  refine ww_lv (lv' := [(2, .int 0), (0, .ref (b + l0)), (1, .ref (b + l1))]) rfl ?_
  exact WW.sub [1, 2, 0] rfl (t_X8_copyFrom_2 hB hf hk)
theorem m_X8_copyFrom (l : Launch) (D : va_G) (cy : Nat → ClassId) (b : Nat) {l0 : Nat} {l1 : Nat} {μ : MS} {z : MS} (hf : f_X8_copyFrom l0 l1 μ = some z) : Met l yX8_copyFrom (.code yX8_copyFrom cX8_copyFrom 3 none :: GW) rmX8_copyFrom (Pw D cy b [.ref (b + l0), .ref (b + l1)] μ) (Qw D cy b (none) (z)) rmX8_copyFrom.cells rmX8_copyFrom.slots (fun q => b ≤ q) :=
  met_of (by decide) (Nat.le_of_ble_eq_true rfl) (fun X hB _ => (t_X8_copyFrom_0 hB hf ⟨rfl, rfl⟩))
-- PulseRemote$Train.copyFrom(LPulseRemote$Train;)V
set_option maxHeartbeats 4000000 in
set_option maxRecDepth 100000 in
theorem t_X10_copyFrom_0 {X : BX} {D : va_G} {cy : Nat → ClassId} {b : Nat} {r : Option Value} {μ' : MS} (hB : BB X D cy b yX10_copyFrom cX10_copyFrom 2 none rmX10_copyFrom) {l0 : Nat} {l1 : Nat} {μ : MS} {z : MS} (hf : f_X10_copyFrom l0 l1 μ = some z) (hk : (fun z : MS => r = none ∧ μ' = z) z) : WW X D cy b r μ' 2 0 0 0 [(0, .ref (b + l0)), (1, .ref (b + l1))] [] μ := by
  unfold f_X10_copyFrom at hf
  refine r_aload_n hB 0 rfl (by decide +kernel : decode cX10_copyFrom 0 = .ok (.aload_n 0, 1)) rfl ?_
  refine r_aload_n hB 1 rfl (by decide +kernel : decode cX10_copyFrom 1 = .ok (.aload_n 1, 1)) rfl ?_
  refine r_gI hB cf10 1 (by decide) (own := "PulseRemote$Train") rfl (Or.inl k_138) (by decide +kernel) (by decide +kernel : decode cX10_copyFrom 2 = .ok (.getfield 15, 3)) hf (fun x2 hf => ?_)
  refine r_iconst hB (v := 0) (by decide +kernel : decode cX10_copyFrom 5 = .ok (.iconst 0, 1)) (by decide +kernel) ?_
  refine r_max hB (own := "PulseRemote$Train") rfl k_474 k_475 k_34 k_476 (by decide +kernel : decode cX10_copyFrom 6 = .ok (.invokestatic 31, 3)) (by decide) (Nat.le_of_ble_eq_true rfl) ?_
  refine r_sipush hB (v := 200) (by decide +kernel : decode cX10_copyFrom 9 = .ok (.sipush 200, 3)) (by decide +kernel) ?_
  refine r_min hB (own := "PulseRemote$Train") rfl k_477 k_478 k_34 k_479 (by decide +kernel : decode cX10_copyFrom 12 = .ok (.invokestatic 38, 3)) (by decide) (Nat.le_of_ble_eq_true rfl) ?_
  refine r_pI hB cf10 1 (by decide) (own := "PulseRemote$Train") rfl (Or.inl k_138) (Or.inl rfl) rfl (by decide +kernel : decode cX10_copyFrom 15 = .ok (.putfield 15, 3)) hf (fun m15 hf => ?_)
  refine r_aload_n hB 1 rfl (by decide +kernel : decode cX10_copyFrom 18 = .ok (.aload_n 1, 1)) rfl ?_
  refine r_gR hB cf10 0 (by decide) (own := "PulseRemote$Train") rfl (Or.inl k_137) (by decide +kernel) (by decide +kernel : decode cX10_copyFrom 19 = .ok (.getfield 9, 3)) hf (fun x19 hf => ?_)
  refine r_iconst hB (v := 0) (by decide +kernel : decode cX10_copyFrom 22 = .ok (.iconst 0, 1)) (by decide +kernel) ?_
  refine r_aload_n hB 0 rfl (by decide +kernel : decode cX10_copyFrom 23 = .ok (.aload_n 0, 1)) rfl ?_
  refine r_gR hB cf10 0 (by decide) (own := "PulseRemote$Train") rfl (Or.inl k_137) (by decide +kernel) (by decide +kernel : decode cX10_copyFrom 24 = .ok (.getfield 9, 3)) hf (fun x24 hf => ?_)
  refine r_iconst hB (v := 0) (by decide +kernel : decode cX10_copyFrom 27 = .ok (.iconst 0, 1)) (by decide +kernel) ?_
  refine r_aload_n hB 0 rfl (by decide +kernel : decode cX10_copyFrom 28 = .ok (.aload_n 0, 1)) rfl ?_
  refine r_gI hB cf10 1 (by decide) (own := "PulseRemote$Train") rfl (Or.inl k_138) (by decide +kernel) (by decide +kernel : decode cX10_copyFrom 29 = .ok (.getfield 15, 3)) hf (fun x29 hf => ?_)
  refine r_copyI hB (own := "PulseRemote$Train") rfl k_480 k_469 k_468 k_35 (by decide) (Nat.le_of_ble_eq_true rfl) (by decide +kernel : decode cX10_copyFrom 32 = .ok (.invokestatic 41, 3)) hf (fun m32 hf => ?_)
  obtain rfl := Option.some.inj hf
  obtain ⟨rfl, rfl⟩ := hk
  exact r_vret hB (by decide +kernel : decode cX10_copyFrom 35 = .ok (.return_, 1))
theorem m_X10_copyFrom (l : Launch) (D : va_G) (cy : Nat → ClassId) (b : Nat) {l0 : Nat} {l1 : Nat} {μ : MS} {z : MS} (hf : f_X10_copyFrom l0 l1 μ = some z) : Met l yX10_copyFrom (.code yX10_copyFrom cX10_copyFrom 2 none :: GW) rmX10_copyFrom (Pw D cy b [.ref (b + l0), .ref (b + l1)] μ) (Qw D cy b (none) (z)) rmX10_copyFrom.cells rmX10_copyFrom.slots (fun q => b ≤ q) :=
  met_of (by decide) (Nat.le_of_ble_eq_true rfl) (fun X hB _ => (t_X10_copyFrom_0 hB hf ⟨rfl, rfl⟩))
-- PulseRemote$State.copyFrom(LPulseRemote$State;)V
set_option maxHeartbeats 4000000 in
set_option maxRecDepth 100000 in
theorem t_X7_copyFrom_39 {X : BX} {D : va_G} {cy : Nat → ClassId} {b : Nat} {r : Option Value} {μ' : MS} (hB : BB X D cy b yX7_copyFrom cX7_copyFrom 3 none rmX7_copyFrom) {l0 : Nat} {l1 : Nat} {μ : MS} {z : MS} (hf : f_X7_copyFrom_39 l0 l1 μ = some z) (hk : (fun z : MS => r = none ∧ μ' = z) z) : WW X D cy b r μ' 3 0 0 39 [(0, .ref (b + l0)), (1, .ref (b + l1))] [] μ := by
  unfold f_X7_copyFrom_39 at hf
  refine r_aload_n hB 0 rfl (by decide +kernel : decode cX7_copyFrom 39 = .ok (.aload_n 0, 1)) rfl ?_
  refine r_aload_n hB 1 rfl (by decide +kernel : decode cX7_copyFrom 40 = .ok (.aload_n 1, 1)) rfl ?_
  refine r_gI hB cf7 2 (by decide) (own := "PulseRemote$State") rfl (Or.inl k_152) (by decide +kernel) (by decide +kernel : decode cX7_copyFrom 41 = .ok (.getfield 24, 3)) hf (fun x41 hf => ?_)
  refine r_pI hB cf7 2 (by decide) (own := "PulseRemote$State") rfl (Or.inl k_152) (Or.inl rfl) rfl (by decide +kernel : decode cX7_copyFrom 44 = .ok (.putfield 24, 3)) hf (fun m44 hf => ?_)
  refine r_aload_n hB 0 rfl (by decide +kernel : decode cX7_copyFrom 47 = .ok (.aload_n 0, 1)) rfl ?_
  refine r_aload_n hB 1 rfl (by decide +kernel : decode cX7_copyFrom 48 = .ok (.aload_n 1, 1)) rfl ?_
  refine r_gI hB cf7 3 (by decide) (own := "PulseRemote$State") rfl (Or.inl k_155) (by decide +kernel) (by decide +kernel : decode cX7_copyFrom 49 = .ok (.getfield 29, 3)) hf (fun x49 hf => ?_)
  refine r_pI hB cf7 3 (by decide) (own := "PulseRemote$State") rfl (Or.inl k_155) (Or.inl rfl) rfl (by decide +kernel : decode cX7_copyFrom 52 = .ok (.putfield 29, 3)) hf (fun m52 hf => ?_)
  refine r_aload_n hB 0 rfl (by decide +kernel : decode cX7_copyFrom 55 = .ok (.aload_n 0, 1)) rfl ?_
  refine r_aload_n hB 1 rfl (by decide +kernel : decode cX7_copyFrom 56 = .ok (.aload_n 1, 1)) rfl ?_
  refine r_gI hB cf7 4 (by decide) (own := "PulseRemote$State") rfl (Or.inl k_158) (by decide +kernel) (by decide +kernel : decode cX7_copyFrom 57 = .ok (.getfield 32, 3)) hf (fun x57 hf => ?_)
  refine r_pI hB cf7 4 (by decide) (own := "PulseRemote$State") rfl (Or.inl k_158) (Or.inl rfl) rfl (by decide +kernel : decode cX7_copyFrom 60 = .ok (.putfield 32, 3)) hf (fun m60 hf => ?_)
  obtain rfl := Option.some.inj hf
  obtain ⟨rfl, rfl⟩ := hk
  exact r_vret hB (by decide +kernel : decode cX7_copyFrom 63 = .ok (.return_, 1))
set_option maxHeartbeats 4000000 in
set_option maxRecDepth 100000 in
theorem t_X7_copyFrom_13_b {X : BX} {D : va_G} {cy : Nat → ClassId} {b : Nat} {r : Option Value} {μ' : MS} (hB : BB X D cy b yX7_copyFrom cX7_copyFrom 3 none rmX7_copyFrom) {l0 : Nat} {l1 : Nat} {l2 : Int32} {μ : MS} {z : ((Nat × Nat × Int32 × MS) ⊕ MS)} (hf : f_X7_copyFrom_13_b l0 l1 l2 μ = some z) (hk : (Sum.elim (fun s : Nat × Nat × Int32 × MS => WW X D cy b r μ' 3 0 0 13 [(0, .ref (b + s.1)), (1, .ref (b + s.2.1)), (2, .int s.2.2.1)] [] s.2.2.2) (fun z : MS => r = none ∧ μ' = z)) z) : WW X D cy b r μ' 3 0 0 13 [(0, .ref (b + l0)), (1, .ref (b + l1)), (2, .int l2)] [] μ := by
  unfold f_X7_copyFrom_13_b at hf
  refine r_iload_n hB 2 rfl (by decide +kernel : decode cX7_copyFrom 13 = .ok (.iload_n 2, 1)) rfl ?_
  refine r_iconst hB (v := 3) (by decide +kernel : decode cX7_copyFrom 14 = .ok (.iconst 3, 1)) (by decide +kernel) ?_
  refine r_icmp_ge hB (tgt := 39) (by decide +kernel : decode cX7_copyFrom 15 = .ok (.if_icmp .ge 24, 3)) (by decide) hf (fun _ hf => ?_) (fun _ hf => ?_)
  · obtain ⟨_, hx0, rfl⟩ := xr_inv hf
    exact WW.sub [0, 1] rfl (t_X7_copyFrom_39 hB hx0 hk)
  · refine r_aload_n hB 0 rfl (by decide +kernel : decode cX7_copyFrom 18 = .ok (.aload_n 0, 1)) rfl ?_
    refine r_gR hB cf7 1 (by decide) (own := "PulseRemote$State") rfl (Or.inl k_151) (by decide +kernel) (by decide +kernel : decode cX7_copyFrom 19 = .ok (.getfield 20, 3)) hf (fun x19 hf => ?_)
    refine r_iload_n hB 2 rfl (by decide +kernel : decode cX7_copyFrom 22 = .ok (.iload_n 2, 1)) rfl ?_
    refine r_aald hB (t := 20) (C := RX10) (Or.inr (Or.inr ⟨rfl, rfl⟩)) (by decide +kernel : decode cX7_copyFrom 23 = .ok (.aaload, 1)) hf (fun x23 hf => ?_)
    refine r_aload_n hB 1 rfl (by decide +kernel : decode cX7_copyFrom 24 = .ok (.aload_n 1, 1)) rfl ?_
    refine r_gR hB cf7 1 (by decide) (own := "PulseRemote$State") rfl (Or.inl k_151) (by decide +kernel) (by decide +kernel : decode cX7_copyFrom 25 = .ok (.getfield 20, 3)) hf (fun x25 hf => ?_)
    refine r_iload_n hB 2 rfl (by decide +kernel : decode cX7_copyFrom 28 = .ok (.iload_n 2, 1)) rfl ?_
    refine r_aald hB (t := 20) (C := RX10) (Or.inr (Or.inr ⟨rfl, rfl⟩)) (by decide +kernel : decode cX7_copyFrom 29 = .ok (.aaload, 1)) hf (fun x29 hf => ?_)
    refine r_cVv hB [.ref (b + x29)] [] cf10 (own := "PulseRemote$State") rfl cmX10_copyFrom imX10_copyFrom (Or.inl k_470) (by decide) rfl rfl rfl (Nat.le_of_ble_eq_true rfl) (by decide +kernel : decode cX7_copyFrom 30 = .ok (.invokevirtual 44, 3)) (fun z hz => m_X10_copyFrom _ _ _ _ hz) rfl hf (fun z30 hf => ?_)
    refine r_iincB hB 2 rfl (by decide +kernel : decode cX7_copyFrom 33 = .ok (.iinc 2 1, 3)) (w := 1) (by decide +kernel) (by decide) hf (fun v33 hf => ?_)
    refine ww_lv (lv' := [(2, .int v33), (0, .ref (b + l0)), (1, .ref (b + l1))]) rfl ?_
    refine r_goto hB (tgt := 13) (by decide +kernel : decode cX7_copyFrom 36 = .ok (.goto (-23), 3)) (by decide) ?_
    obtain rfl := Option.some.inj hf
    exact WW.sub [1, 2, 0] rfl hk
set_option maxHeartbeats 4000000 in
set_option maxRecDepth 100000 in
theorem t_X7_copyFrom_13 {X : BX} {D : va_G} {cy : Nat → ClassId} {b : Nat} {r : Option Value} {μ' : MS} (hB : BB X D cy b yX7_copyFrom cX7_copyFrom 3 none rmX7_copyFrom) {l0 : Nat} {l1 : Nat} {l2 : Int32} {μ : MS} {z : MS} (hf : f_X7_copyFrom_13 l0 l1 l2 μ = some z) (hk : (fun z : MS => r = none ∧ μ' = z) z) : WW X D cy b r μ' 3 0 0 13 [(0, .ref (b + l0)), (1, .ref (b + l1)), (2, .int l2)] [] μ :=
  lp_ind (P := fun s : Nat × Nat × Int32 × MS => WW X D cy b r μ' 3 0 0 13 [(0, .ref (b + s.1)), (1, .ref (b + s.2.1)), (2, .int s.2.2.1)] [] s.2.2.2) (Q := (fun z : MS => r = none ∧ μ' = z)) (fun s z hz hk => t_X7_copyFrom_13_b hB hz hk) (l0, l1, l2, μ) z hf hk
set_option maxHeartbeats 4000000 in
set_option maxRecDepth 100000 in
theorem t_X7_copyFrom_0 {X : BX} {D : va_G} {cy : Nat → ClassId} {b : Nat} {r : Option Value} {μ' : MS} (hB : BB X D cy b yX7_copyFrom cX7_copyFrom 3 none rmX7_copyFrom) {l0 : Nat} {l1 : Nat} {μ : MS} {z : MS} (hf : f_X7_copyFrom l0 l1 μ = some z) (hk : (fun z : MS => r = none ∧ μ' = z) z) : WW X D cy b r μ' 3 0 0 0 [(0, .ref (b + l0)), (1, .ref (b + l1))] [] μ := by
  unfold f_X7_copyFrom at hf
  refine r_aload_n hB 0 rfl (by decide +kernel : decode cX7_copyFrom 0 = .ok (.aload_n 0, 1)) rfl ?_
  refine r_gR hB cf7 0 (by decide) (own := "PulseRemote$State") rfl (Or.inl k_148) (by decide +kernel) (by decide +kernel : decode cX7_copyFrom 1 = .ok (.getfield 12, 3)) hf (fun x1 hf => ?_)
  refine r_aload_n hB 1 rfl (by decide +kernel : decode cX7_copyFrom 4 = .ok (.aload_n 1, 1)) rfl ?_
  refine r_gR hB cf7 0 (by decide) (own := "PulseRemote$State") rfl (Or.inl k_148) (by decide +kernel) (by decide +kernel : decode cX7_copyFrom 5 = .ok (.getfield 12, 3)) hf (fun x5 hf => ?_)
  refine r_cVv hB [.ref (b + x5)] [] cf8 (own := "PulseRemote$State") rfl cmX8_copyFrom imX8_copyFrom (Or.inl k_451) (by decide) rfl rfl rfl (Nat.le_of_ble_eq_true rfl) (by decide +kernel : decode cX7_copyFrom 8 = .ok (.invokevirtual 40, 3)) (fun z hz => m_X8_copyFrom _ _ _ _ hz) rfl hf (fun z8 hf => ?_)
  refine r_iconst hB (v := 0) (by decide +kernel : decode cX7_copyFrom 11 = .ok (.iconst 0, 1)) (by decide +kernel) ?_
  refine r_istore_n hB (by decide +kernel : decode cX7_copyFrom 12 = .ok (.istore_n 2, 1)) rfl (by decide) rfl ?_
  refine ww_lv (lv' := [(2, .int 0), (0, .ref (b + l0)), (1, .ref (b + l1))]) rfl ?_
  exact WW.sub [1, 2, 0] rfl (t_X7_copyFrom_13 hB hf hk)
theorem m_X7_copyFrom (l : Launch) (D : va_G) (cy : Nat → ClassId) (b : Nat) {l0 : Nat} {l1 : Nat} {μ : MS} {z : MS} (hf : f_X7_copyFrom l0 l1 μ = some z) : Met l yX7_copyFrom (.code yX7_copyFrom cX7_copyFrom 3 none :: GW) rmX7_copyFrom (Pw D cy b [.ref (b + l0), .ref (b + l1)] μ) (Qw D cy b (none) (z)) rmX7_copyFrom.cells rmX7_copyFrom.slots (fun q => b ≤ q) :=
  met_of (by decide) (Nat.le_of_ble_eq_true rfl) (fun X hB _ => (t_X7_copyFrom_0 hB hf ⟨rfl, rfl⟩))
-- PulseRemote.saveState()V
set_option maxHeartbeats 4000000 in
set_option maxRecDepth 100000 in
theorem t_X11_saveState_56 {X : BX} {D : va_G} {cy : Nat → ClassId} {b : Nat} {r : Option Value} {μ' : MS} (hB : BB X D cy b yX11_saveState cX11_saveState 3 none rmX11_saveState) {l0 : Nat} {μ : MS} {z : MS} (hf : f_X11_saveState_56 l0 μ = some z) (hk : (fun z : MS => r = none ∧ μ' = z) z) : WW X D cy b r μ' 3 0 0 56 [(0, .ref (b + l0))] [] μ := by
  unfold f_X11_saveState_56 at hf
  refine r_aload_n hB 0 rfl (by decide +kernel : decode cX11_saveState 56 = .ok (.aload_n 0, 1)) rfl ?_
  refine r_gR hB cf11 1 (by decide) (own := "PulseRemote") rfl (Or.inl k_396) (by decide +kernel) (by decide +kernel : decode cX11_saveState 57 = .ok (.getfield 16, 3)) hf (fun x57 hf => ?_)
  refine r_aload_n hB 0 rfl (by decide +kernel : decode cX11_saveState 60 = .ok (.aload_n 0, 1)) rfl ?_
  refine r_gI hB cf11 2 (by decide) (own := "PulseRemote") rfl (Or.inl k_397) (by decide +kernel) (by decide +kernel : decode cX11_saveState 61 = .ok (.getfield 153, 3)) hf (fun x61 hf => ?_)
  refine r_aald hB (t := 19) (C := RX7) (Or.inr (Or.inl ⟨rfl, rfl⟩)) (by decide +kernel : decode cX11_saveState 64 = .ok (.aaload, 1)) hf (fun x64 hf => ?_)
  refine r_aload_n hB 0 rfl (by decide +kernel : decode cX11_saveState 65 = .ok (.aload_n 0, 1)) rfl ?_
  refine r_gR hB cf11 0 (by decide) (own := "PulseRemote") rfl (Or.inl k_395) (by decide +kernel) (by decide +kernel : decode cX11_saveState 66 = .ok (.getfield 12, 3)) hf (fun x66 hf => ?_)
  refine r_cVv hB [.ref (b + x66)] [] cf7 (own := "PulseRemote") rfl cmX7_copyFrom imX7_copyFrom (Or.inl k_447) (by decide) rfl rfl rfl (Nat.le_of_ble_eq_true rfl) (by decide +kernel : decode cX11_saveState 69 = .ok (.invokevirtual 357, 3)) (fun z hz => m_X7_copyFrom _ _ _ _ hz) rfl hf (fun z69 hf => ?_)
  refine r_aload_n hB 0 rfl (by decide +kernel : decode cX11_saveState 72 = .ok (.aload_n 0, 1)) rfl ?_
  refine r_dup hB (by decide +kernel : decode cX11_saveState 73 = .ok (.dup, 1)) rfl ?_
  refine r_gI hB cf11 2 (by decide) (own := "PulseRemote") rfl (Or.inl k_397) (by decide +kernel) (by decide +kernel : decode cX11_saveState 74 = .ok (.getfield 153, 3)) hf (fun x74 hf => ?_)
  refine r_iconst hB (v := 1) (by decide +kernel : decode cX11_saveState 77 = .ok (.iconst 1, 1)) (by decide +kernel) ?_
  refine r_iadd hB (by decide +kernel : decode cX11_saveState 78 = .ok (.iadd, 1)) ?_
  refine r_pI hB cf11 2 (by decide) (own := "PulseRemote") rfl (Or.inl k_397) (Or.inl rfl) rfl (by decide +kernel : decode cX11_saveState 79 = .ok (.putfield 153, 3)) hf (fun m79 hf => ?_)
  obtain rfl := Option.some.inj hf
  obtain ⟨rfl, rfl⟩ := hk
  exact r_vret hB (by decide +kernel : decode cX11_saveState 82 = .ok (.return_, 1))
set_option maxHeartbeats 4000000 in
set_option maxRecDepth 100000 in
theorem t_X11_saveState_44 {X : BX} {D : va_G} {cy : Nat → ClassId} {b : Nat} {r : Option Value} {μ' : MS} (hB : BB X D cy b yX11_saveState cX11_saveState 3 none rmX11_saveState) {l0 : Nat} {l1 : Nat} {μ : MS} {z : MS} (hf : f_X11_saveState_44 l0 l1 μ = some z) (hk : (fun z : MS => r = none ∧ μ' = z) z) : WW X D cy b r μ' 3 0 0 44 [(0, .ref (b + l0)), (1, .ref (b + l1))] [] μ := by
  unfold f_X11_saveState_44 at hf
  refine r_aload_n hB 0 rfl (by decide +kernel : decode cX11_saveState 44 = .ok (.aload_n 0, 1)) rfl ?_
  refine r_gR hB cf11 1 (by decide) (own := "PulseRemote") rfl (Or.inl k_396) (by decide +kernel) (by decide +kernel : decode cX11_saveState 45 = .ok (.getfield 16, 3)) hf (fun x45 hf => ?_)
  refine r_iconst hB (v := 5) (by decide +kernel : decode cX11_saveState 48 = .ok (.iconst 5, 1)) (by decide +kernel) ?_
  refine r_aload_n hB 1 rfl (by decide +kernel : decode cX11_saveState 49 = .ok (.aload_n 1, 1)) rfl ?_
  refine r_aast hB (t := 19) (C := RX7) cf7 (Or.inr (Or.inl ⟨rfl, rfl⟩)) (by decide +kernel : decode cX11_saveState 50 = .ok (.aastore, 1)) hf (fun m50 hf => ?_)
  refine r_aload_n hB 0 rfl (by decide +kernel : decode cX11_saveState 51 = .ok (.aload_n 0, 1)) rfl ?_
  refine r_iconst hB (v := 5) (by decide +kernel : decode cX11_saveState 52 = .ok (.iconst 5, 1)) (by decide +kernel) ?_
  refine r_pI hB cf11 2 (by decide) (own := "PulseRemote") rfl (Or.inl k_397) (Or.inl rfl) rfl (by decide +kernel : decode cX11_saveState 53 = .ok (.putfield 153, 3)) hf (fun m53 hf => ?_)
  exact WW.sub [0] rfl (t_X11_saveState_56 hB hf hk)
set_option maxHeartbeats 4000000 in
set_option maxRecDepth 100000 in
theorem t_X11_saveState_18_b {X : BX} {D : va_G} {cy : Nat → ClassId} {b : Nat} {r : Option Value} {μ' : MS} (hB : BB X D cy b yX11_saveState cX11_saveState 3 none rmX11_saveState) {l0 : Nat} {l1 : Nat} {l2 : Int32} {μ : MS} {z : ((Nat × Nat × Int32 × MS) ⊕ MS)} (hf : f_X11_saveState_18_b l0 l1 l2 μ = some z) (hk : (Sum.elim (fun s : Nat × Nat × Int32 × MS => WW X D cy b r μ' 3 0 0 18 [(0, .ref (b + s.1)), (1, .ref (b + s.2.1)), (2, .int s.2.2.1)] [] s.2.2.2) (fun z : MS => r = none ∧ μ' = z)) z) : WW X D cy b r μ' 3 0 0 18 [(0, .ref (b + l0)), (1, .ref (b + l1)), (2, .int l2)] [] μ := by
  unfold f_X11_saveState_18_b at hf
  refine r_iload_n hB 2 rfl (by decide +kernel : decode cX11_saveState 18 = .ok (.iload_n 2, 1)) rfl ?_
  refine r_bipush hB (v := 6) (by decide +kernel : decode cX11_saveState 19 = .ok (.bipush 6, 2)) (by decide +kernel) ?_
  refine r_icmp_ge hB (tgt := 44) (by decide +kernel : decode cX11_saveState 21 = .ok (.if_icmp .ge 23, 3)) (by decide) hf (fun _ hf => ?_) (fun _ hf => ?_)
  · obtain ⟨_, hx0, rfl⟩ := xr_inv hf
    exact WW.sub [0, 1] rfl (t_X11_saveState_44 hB hx0 hk)
  · refine r_aload_n hB 0 rfl (by decide +kernel : decode cX11_saveState 24 = .ok (.aload_n 0, 1)) rfl ?_
    refine r_gR hB cf11 1 (by decide) (own := "PulseRemote") rfl (Or.inl k_396) (by decide +kernel) (by decide +kernel : decode cX11_saveState 25 = .ok (.getfield 16, 3)) hf (fun x25 hf => ?_)
    refine r_iload_n hB 2 rfl (by decide +kernel : decode cX11_saveState 28 = .ok (.iload_n 2, 1)) rfl ?_
    refine r_iconst hB (v := 1) (by decide +kernel : decode cX11_saveState 29 = .ok (.iconst 1, 1)) (by decide +kernel) ?_
    refine r_isub hB (by decide +kernel : decode cX11_saveState 30 = .ok (.isub, 1)) ?_
    refine r_aload_n hB 0 rfl (by decide +kernel : decode cX11_saveState 31 = .ok (.aload_n 0, 1)) rfl ?_
    refine r_gR hB cf11 1 (by decide) (own := "PulseRemote") rfl (Or.inl k_396) (by decide +kernel) (by decide +kernel : decode cX11_saveState 32 = .ok (.getfield 16, 3)) hf (fun x32 hf => ?_)
    refine r_iload_n hB 2 rfl (by decide +kernel : decode cX11_saveState 35 = .ok (.iload_n 2, 1)) rfl ?_
    refine r_aald hB (t := 19) (C := RX7) (Or.inr (Or.inl ⟨rfl, rfl⟩)) (by decide +kernel : decode cX11_saveState 36 = .ok (.aaload, 1)) hf (fun x36 hf => ?_)
    refine r_aast hB (t := 19) (C := RX7) cf7 (Or.inr (Or.inl ⟨rfl, rfl⟩)) (by decide +kernel : decode cX11_saveState 37 = .ok (.aastore, 1)) hf (fun m37 hf => ?_)
    refine r_iincB hB 2 rfl (by decide +kernel : decode cX11_saveState 38 = .ok (.iinc 2 1, 3)) (w := 1) (by decide +kernel) (by decide) hf (fun v38 hf => ?_)
    refine ww_lv (lv' := [(2, .int v38), (0, .ref (b + l0)), (1, .ref (b + l1))]) rfl ?_
    refine r_goto hB (tgt := 18) (by decide +kernel : decode cX11_saveState 41 = .ok (.goto (-23), 3)) (by decide) ?_
    obtain rfl := Option.some.inj hf
    exact WW.sub [1, 2, 0] rfl hk
set_option maxHeartbeats 4000000 in
set_option maxRecDepth 100000 in
theorem t_X11_saveState_18 {X : BX} {D : va_G} {cy : Nat → ClassId} {b : Nat} {r : Option Value} {μ' : MS} (hB : BB X D cy b yX11_saveState cX11_saveState 3 none rmX11_saveState) {l0 : Nat} {l1 : Nat} {l2 : Int32} {μ : MS} {z : MS} (hf : f_X11_saveState_18 l0 l1 l2 μ = some z) (hk : (fun z : MS => r = none ∧ μ' = z) z) : WW X D cy b r μ' 3 0 0 18 [(0, .ref (b + l0)), (1, .ref (b + l1)), (2, .int l2)] [] μ :=
  lp_ind (P := fun s : Nat × Nat × Int32 × MS => WW X D cy b r μ' 3 0 0 18 [(0, .ref (b + s.1)), (1, .ref (b + s.2.1)), (2, .int s.2.2.1)] [] s.2.2.2) (Q := (fun z : MS => r = none ∧ μ' = z)) (fun s z hz hk => t_X11_saveState_18_b hB hz hk) (l0, l1, l2, μ) z hf hk
set_option maxHeartbeats 4000000 in
set_option maxRecDepth 100000 in
theorem t_X11_saveState_0 {X : BX} {D : va_G} {cy : Nat → ClassId} {b : Nat} {r : Option Value} {μ' : MS} (hB : BB X D cy b yX11_saveState cX11_saveState 3 none rmX11_saveState) {l0 : Nat} {μ : MS} {z : MS} (hf : f_X11_saveState l0 μ = some z) (hk : (fun z : MS => r = none ∧ μ' = z) z) : WW X D cy b r μ' 3 0 0 0 [(0, .ref (b + l0))] [] μ := by
  unfold f_X11_saveState at hf
  refine r_aload_n hB 0 rfl (by decide +kernel : decode cX11_saveState 0 = .ok (.aload_n 0, 1)) rfl ?_
  refine r_gI hB cf11 2 (by decide) (own := "PulseRemote") rfl (Or.inl k_397) (by decide +kernel) (by decide +kernel : decode cX11_saveState 1 = .ok (.getfield 153, 3)) hf (fun x1 hf => ?_)
  refine r_bipush hB (v := 6) (by decide +kernel : decode cX11_saveState 4 = .ok (.bipush 6, 2)) (by decide +kernel) ?_
  refine r_icmp_lt hB (tgt := 56) (by decide +kernel : decode cX11_saveState 6 = .ok (.if_icmp .lt 50, 3)) (by decide) hf (fun _ hf => ?_) (fun _ hf => ?_)
  · exact WW.sub [0] rfl (t_X11_saveState_56 hB hf hk)
  · refine r_aload_n hB 0 rfl (by decide +kernel : decode cX11_saveState 9 = .ok (.aload_n 0, 1)) rfl ?_
    refine r_gR hB cf11 1 (by decide) (own := "PulseRemote") rfl (Or.inl k_396) (by decide +kernel) (by decide +kernel : decode cX11_saveState 10 = .ok (.getfield 16, 3)) hf (fun x10 hf => ?_)
    refine r_iconst hB (v := 0) (by decide +kernel : decode cX11_saveState 13 = .ok (.iconst 0, 1)) (by decide +kernel) ?_
    refine r_aald hB (t := 19) (C := RX7) (Or.inr (Or.inl ⟨rfl, rfl⟩)) (by decide +kernel : decode cX11_saveState 14 = .ok (.aaload, 1)) hf (fun x14 hf => ?_)
    refine r_astore_n hB (by decide +kernel : decode cX11_saveState 15 = .ok (.astore_n 1, 1)) rfl (by decide) rfl ?_
    refine ww_lv (lv' := [(1, .ref (b + x14)), (0, .ref (b + l0))]) rfl ?_
    refine r_iconst hB (v := 1) (by decide +kernel : decode cX11_saveState 16 = .ok (.iconst 1, 1)) (by decide +kernel) ?_
    refine r_istore_n hB (by decide +kernel : decode cX11_saveState 17 = .ok (.istore_n 2, 1)) rfl (by decide) rfl ?_
    refine ww_lv (lv' := [(2, .int 1), (1, .ref (b + x14)), (0, .ref (b + l0))]) rfl ?_
    exact WW.sub [2, 1, 0] rfl (t_X11_saveState_18 hB hf hk)
theorem m_X11_saveState (l : Launch) (D : va_G) (cy : Nat → ClassId) (b : Nat) {l0 : Nat} {μ : MS} {z : MS} (hf : f_X11_saveState l0 μ = some z) : Met l yX11_saveState (.code yX11_saveState cX11_saveState 3 none :: GW) rmX11_saveState (Pw D cy b [.ref (b + l0)] μ) (Qw D cy b (none) (z)) rmX11_saveState.cells rmX11_saveState.slots (fun q => b ≤ q) :=
  met_of (by decide) (Nat.le_of_ble_eq_true rfl) (fun X hB _ => (t_X11_saveState_0 hB hf ⟨rfl, rfl⟩))
-- PulseRemote$Table.protocolAt(I)LPulseRemote$Protocol;
set_option maxHeartbeats 4000000 in
set_option maxRecDepth 100000 in
theorem t_X8_protocolAt_0 {X : BX} {D : va_G} {cy : Nat → ClassId} {b : Nat} {r : Option Value} {μ' : MS} (hB : BB X D cy b yX8_protocolAt cX8_protocolAt 2 (some (.object "PulseRemote$Protocol")) rmX8_protocolAt) {l0 : Nat} {l1 : Int32} {μ : MS} {z : (Nat × MS)} (hf : f_X8_protocolAt l0 l1 μ = some z) (hk : (fun z : Nat × MS => r = some (.ref (b + z.1)) ∧ μ' = z.2) z) : WW X D cy b r μ' 2 0 0 0 [(0, .ref (b + l0)), (1, .int l1)] [] μ := by
  unfold f_X8_protocolAt at hf
  refine r_aload_n hB 0 rfl (by decide +kernel : decode cX8_protocolAt 0 = .ok (.aload_n 0, 1)) rfl ?_
  refine r_gR hB cf8 0 (by decide) (own := "PulseRemote$Table") rfl (Or.inl k_110) (by decide +kernel) (by decide +kernel : decode cX8_protocolAt 1 = .ok (.getfield 11, 3)) hf (fun x1 hf => ?_)
  refine r_iload_n hB 1 rfl (by decide +kernel : decode cX8_protocolAt 4 = .ok (.iload_n 1, 1)) rfl ?_
  refine r_if_lt hB (tgt := 18) (by decide +kernel : decode cX8_protocolAt 5 = .ok (.ifCond .lt 13, 3)) (by decide) hf (fun _ hf => ?_) (fun _ hf => ?_)
  · refine r_iconst hB (v := 0) (by decide +kernel : decode cX8_protocolAt 18 = .ok (.iconst 0, 1)) (by decide +kernel) ?_
    refine r_aald hB (t := 18) (C := RX6) (Or.inl ⟨rfl, rfl⟩) (by decide +kernel : decode cX8_protocolAt 19 = .ok (.aaload, 1)) hf (fun x19 hf => ?_)
    obtain rfl := Option.some.inj hf
    obtain ⟨rfl, rfl⟩ := hk
    exact r_aret hB (by decide +kernel : decode cX8_protocolAt 20 = .ok (.areturn, 1))
  · refine r_iload_n hB 1 rfl (by decide +kernel : decode cX8_protocolAt 8 = .ok (.iload_n 1, 1)) rfl ?_
    refine r_bipush hB (v := 6) (by decide +kernel : decode cX8_protocolAt 9 = .ok (.bipush 6, 2)) (by decide +kernel) ?_
    refine r_icmp_ge hB (tgt := 18) (by decide +kernel : decode cX8_protocolAt 11 = .ok (.if_icmp .ge 7, 3)) (by decide) hf (fun _ hf => ?_) (fun _ hf => ?_)
    · refine r_iconst hB (v := 0) (by decide +kernel : decode cX8_protocolAt 18 = .ok (.iconst 0, 1)) (by decide +kernel) ?_
      refine r_aald hB (t := 18) (C := RX6) (Or.inl ⟨rfl, rfl⟩) (by decide +kernel : decode cX8_protocolAt 19 = .ok (.aaload, 1)) hf (fun x19 hf => ?_)
      obtain rfl := Option.some.inj hf
      obtain ⟨rfl, rfl⟩ := hk
      exact r_aret hB (by decide +kernel : decode cX8_protocolAt 20 = .ok (.areturn, 1))
    · refine r_iload_n hB 1 rfl (by decide +kernel : decode cX8_protocolAt 14 = .ok (.iload_n 1, 1)) rfl ?_
      refine r_goto hB (tgt := 19) (by decide +kernel : decode cX8_protocolAt 15 = .ok (.goto 4, 3)) (by decide) ?_
      refine r_aald hB (t := 18) (C := RX6) (Or.inl ⟨rfl, rfl⟩) (by decide +kernel : decode cX8_protocolAt 19 = .ok (.aaload, 1)) hf (fun x19 hf => ?_)
      obtain rfl := Option.some.inj hf
      obtain ⟨rfl, rfl⟩ := hk
      exact r_aret hB (by decide +kernel : decode cX8_protocolAt 20 = .ok (.areturn, 1))
theorem m_X8_protocolAt (l : Launch) (D : va_G) (cy : Nat → ClassId) (b : Nat) {l0 : Nat} {l1 : Int32} {μ : MS} {z : Nat × MS} (hf : f_X8_protocolAt l0 l1 μ = some z) : Met l yX8_protocolAt (.code yX8_protocolAt cX8_protocolAt 2 (some (.object "PulseRemote$Protocol")) :: GW) rmX8_protocolAt (Pw D cy b [.ref (b + l0), .int l1] μ) (Qw D cy b (some (.ref (b + z.1))) (z.2)) rmX8_protocolAt.cells rmX8_protocolAt.slots (fun q => b ≤ q) :=
  met_of (by decide) (Nat.le_of_ble_eq_true rfl) (fun X hB _ => (t_X8_protocolAt_0 hB hf ⟨rfl, rfl⟩))
-- PulseRemote$Table.newProtocol(IIII)I
set_option maxHeartbeats 4000000 in
set_option maxRecDepth 100000 in
theorem t_X8_newProtocol_55 {X : BX} {D : va_G} {cy : Nat → ClassId} {b : Nat} {r : Option Value} {μ' : MS} (hB : BB X D cy b yX8_newProtocol cX8_newProtocol 6 (some .int) rmX8_newProtocol) {l0 : Nat} {s0 : Int32} {s1 : Int32} {s2 : Int32} {s3 : Int32} {s4 : Int32} {s5 : Nat} {μ : MS} {z : (Int32 × MS)} (hf : f_X8_newProtocol_55 l0 s0 s1 s2 s3 s4 s5 μ = some z) (hk : (fun z : Int32 × MS => r = some (.int z.1) ∧ μ' = z.2) z) : WW X D cy b r μ' 6 0 0 55 [(0, .ref (b + l0))] [.int s0, .int s1, .int s2, .int s3, .int s4, .ref (b + s5)] μ := by
  unfold f_X8_newProtocol_55 at hf
  refine r_cVv hB [.int s4, .int s3, .int s2, .int s1, .int s0] [] cf6 (own := "PulseRemote$Table") rfl cmX6_useLengths imX6_useLengths (Or.inl k_758) (by decide) rfl rfl rfl (Nat.le_of_ble_eq_true rfl) (by decide +kernel : decode cX8_newProtocol 55 = .ok (.invokevirtual 50, 3)) (fun z hz => m_X6_useLengths _ _ _ _ hz) rfl hf (fun z55 hf => ?_)
  refine r_aload_n hB 0 rfl (by decide +kernel : decode cX8_newProtocol 58 = .ok (.aload_n 0, 1)) rfl ?_
  refine r_dup hB (by decide +kernel : decode cX8_newProtocol 59 = .ok (.dup, 1)) rfl ?_
  refine r_gI hB cf8 1 (by decide) (own := "PulseRemote$Table") rfl (Or.inl k_111) (by decide +kernel) (by decide +kernel : decode cX8_newProtocol 60 = .ok (.getfield 35, 3)) hf (fun x60 hf => ?_)
  refine r_iconst hB (v := 1) (by decide +kernel : decode cX8_newProtocol 63 = .ok (.iconst 1, 1)) (by decide +kernel) ?_
  refine r_iadd hB (by decide +kernel : decode cX8_newProtocol 64 = .ok (.iadd, 1)) ?_
  refine r_pI hB cf8 1 (by decide) (own := "PulseRemote$Table") rfl (Or.inl k_111) (Or.inl rfl) rfl (by decide +kernel : decode cX8_newProtocol 65 = .ok (.putfield 35, 3)) hf (fun m65 hf => ?_)
  refine r_aload_n hB 0 rfl (by decide +kernel : decode cX8_newProtocol 68 = .ok (.aload_n 0, 1)) rfl ?_
  refine r_gI hB cf8 1 (by decide) (own := "PulseRemote$Table") rfl (Or.inl k_111) (by decide +kernel) (by decide +kernel : decode cX8_newProtocol 69 = .ok (.getfield 35, 3)) hf (fun x69 hf => ?_)
  refine r_iconst hB (v := 1) (by decide +kernel : decode cX8_newProtocol 72 = .ok (.iconst 1, 1)) (by decide +kernel) ?_
  refine r_isub hB (by decide +kernel : decode cX8_newProtocol 73 = .ok (.isub, 1)) ?_
  obtain rfl := Option.some.inj hf
  obtain ⟨rfl, rfl⟩ := hk
  exact r_iret hB (by decide +kernel : decode cX8_newProtocol 74 = .ok (.ireturn, 1))
set_option maxHeartbeats 4000000 in
set_option maxRecDepth 100000 in
theorem t_X8_newProtocol_43 {X : BX} {D : va_G} {cy : Nat → ClassId} {b : Nat} {r : Option Value} {μ' : MS} (hB : BB X D cy b yX8_newProtocol cX8_newProtocol 6 (some .int) rmX8_newProtocol) {l0 : Nat} {l1 : Int32} {s0 : Int32} {s1 : Int32} {s2 : Int32} {s3 : Int32} {s4 : Nat} {μ : MS} {z : (Int32 × MS)} (hf : f_X8_newProtocol_43 l0 l1 s0 s1 s2 s3 s4 μ = some z) (hk : (fun z : Int32 × MS => r = some (.int z.1) ∧ μ' = z.2) z) : WW X D cy b r μ' 6 0 0 43 [(0, .ref (b + l0)), (1, .int l1)] [.int s0, .int s1, .int s2, .int s3, .ref (b + s4)] μ := by
  unfold f_X8_newProtocol_43 at hf
  refine r_iload_n hB 1 rfl (by decide +kernel : decode cX8_newProtocol 43 = .ok (.iload_n 1, 1)) rfl ?_
  refine r_iconst hB (v := 2) (by decide +kernel : decode cX8_newProtocol 44 = .ok (.iconst 2, 1)) (by decide +kernel) ?_
  refine r_icmp_ne hB (tgt := 52) (by decide +kernel : decode cX8_newProtocol 45 = .ok (.if_icmp .ne 7, 3)) (by decide) hf (fun _ hf => ?_) (fun _ hf => ?_)
  · refine r_iconst hB (v := 0) (by decide +kernel : decode cX8_newProtocol 48 = .ok (.iconst 0, 1)) (by decide +kernel) ?_
    refine r_goto hB (tgt := 55) (by decide +kernel : decode cX8_newProtocol 49 = .ok (.goto 6, 3)) (by decide) ?_
    exact WW.sub [0] rfl (t_X8_newProtocol_55 hB hf hk)
  · refine r_sipush hB (v := 1690) (by decide +kernel : decode cX8_newProtocol 52 = .ok (.sipush 1690, 3)) (by decide +kernel) ?_
    exact WW.sub [0] rfl (t_X8_newProtocol_55 hB hf hk)
set_option maxHeartbeats 4000000 in
set_option maxRecDepth 100000 in
theorem t_X8_newProtocol_0 {X : BX} {D : va_G} {cy : Nat → ClassId} {b : Nat} {r : Option Value} {μ' : MS} (hB : BB X D cy b yX8_newProtocol cX8_newProtocol 6 (some .int) rmX8_newProtocol) {l0 : Nat} {l1 : Int32} {l2 : Int32} {l3 : Int32} {l4 : Int32} {μ : MS} {z : (Int32 × MS)} (hf : f_X8_newProtocol l0 l1 l2 l3 l4 μ = some z) (hk : (fun z : Int32 × MS => r = some (.int z.1) ∧ μ' = z.2) z) : WW X D cy b r μ' 6 0 0 0 [(0, .ref (b + l0)), (1, .int l1), (2, .int l2), (3, .int l3), (4, .int l4)] [] μ := by
  unfold f_X8_newProtocol at hf
  refine r_aload_n hB 0 rfl (by decide +kernel : decode cX8_newProtocol 0 = .ok (.aload_n 0, 1)) rfl ?_
  refine r_aload_n hB 0 rfl (by decide +kernel : decode cX8_newProtocol 1 = .ok (.aload_n 0, 1)) rfl ?_
  refine r_gI hB cf8 1 (by decide) (own := "PulseRemote$Table") rfl (Or.inl k_111) (by decide +kernel) (by decide +kernel : decode cX8_newProtocol 2 = .ok (.getfield 35, 3)) hf (fun x2 hf => ?_)
  refine r_cVr hB [.int x2] [] cf8 (own := "PulseRemote$Table") rfl cmX8_protocolAt imX8_protocolAt (Or.inl k_661) (by decide) rfl rfl rfl (Nat.le_of_ble_eq_true rfl) (by decide +kernel : decode cX8_newProtocol 5 = .ok (.invokevirtual 42, 3)) (fun z hz => m_X8_protocolAt _ _ _ _ hz) rfl hf (fun z5 hf => ?_)
  refine r_astore hB (by decide +kernel : decode cX8_newProtocol 8 = .ok (.astore 5, 2)) (by decide) rfl ?_
  refine ww_lv (lv' := [(5, .ref (b + z5.1)), (0, .ref (b + l0)), (1, .int l1), (2, .int l2), (3, .int l3), (4, .int l4)]) rfl ?_
  refine r_aload hB 0 rfl (by decide +kernel : decode cX8_newProtocol 10 = .ok (.aload 5, 2)) ?_
  refine r_iload_n hB 2 rfl (by decide +kernel : decode cX8_newProtocol 12 = .ok (.iload_n 1, 1)) rfl ?_
  refine r_iload_n hB 3 rfl (by decide +kernel : decode cX8_newProtocol 13 = .ok (.iload_n 2, 1)) rfl ?_
  refine r_iload_n hB 4 rfl (by decide +kernel : decode cX8_newProtocol 14 = .ok (.iload_n 3, 1)) rfl ?_
  refine r_iload hB 5 rfl (by decide +kernel : decode cX8_newProtocol 15 = .ok (.iload 4, 2)) ?_
  refine r_cVv hB [.int l1, .int l2, .int l3, .int l4] [] cf6 (own := "PulseRemote$Table") rfl cmX6_useShape imX6_useShape (Or.inl k_757) (by decide) rfl rfl rfl (Nat.le_of_ble_eq_true rfl) (by decide +kernel : decode cX8_newProtocol 17 = .ok (.invokevirtual 46, 3)) (fun z hz => m_X6_useShape _ _ _ _ hz) rfl hf (fun z17 hf => ?_)
  refine r_aload hB 0 rfl (by decide +kernel : decode cX8_newProtocol 20 = .ok (.aload 5, 2)) ?_
  refine r_sipush hB (v := 9000) (by decide +kernel : decode cX8_newProtocol 22 = .ok (.sipush 9000, 3)) (by decide +kernel) ?_
  refine r_sipush hB (v := 4500) (by decide +kernel : decode cX8_newProtocol 25 = .ok (.sipush 4500, 3)) (by decide +kernel) ?_
  refine r_sipush hB (v := 560) (by decide +kernel : decode cX8_newProtocol 28 = .ok (.sipush 560, 3)) (by decide +kernel) ?_
  refine r_iload_n hB 2 rfl (by decide +kernel : decode cX8_newProtocol 31 = .ok (.iload_n 1, 1)) rfl ?_
  refine r_iconst hB (v := 2) (by decide +kernel : decode cX8_newProtocol 32 = .ok (.iconst 2, 1)) (by decide +kernel) ?_
  refine r_icmp_ne hB (tgt := 40) (by decide +kernel : decode cX8_newProtocol 33 = .ok (.if_icmp .ne 7, 3)) (by decide) hf (fun _ hf => ?_) (fun _ hf => ?_)
  · refine r_iconst hB (v := 0) (by decide +kernel : decode cX8_newProtocol 36 = .ok (.iconst 0, 1)) (by decide +kernel) ?_
    refine r_goto hB (tgt := 43) (by decide +kernel : decode cX8_newProtocol 37 = .ok (.goto 6, 3)) (by decide) ?_
    exact WW.sub [1, 2] rfl (t_X8_newProtocol_43 hB hf hk)
  · refine r_sipush hB (v := 560) (by decide +kernel : decode cX8_newProtocol 40 = .ok (.sipush 560, 3)) (by decide +kernel) ?_
    exact WW.sub [1, 2] rfl (t_X8_newProtocol_43 hB hf hk)
theorem m_X8_newProtocol (l : Launch) (D : va_G) (cy : Nat → ClassId) (b : Nat) {l0 : Nat} {l1 : Int32} {l2 : Int32} {l3 : Int32} {l4 : Int32} {μ : MS} {z : Int32 × MS} (hf : f_X8_newProtocol l0 l1 l2 l3 l4 μ = some z) : Met l yX8_newProtocol (.code yX8_newProtocol cX8_newProtocol 6 (some .int) :: GW) rmX8_newProtocol (Pw D cy b [.ref (b + l0), .int l1, .int l2, .int l3, .int l4] μ) (Qw D cy b (some (.int z.1)) (z.2)) rmX8_newProtocol.cells rmX8_newProtocol.slots (fun q => b ≤ q) :=
  met_of (by decide) (Nat.le_of_ble_eq_true rfl) (fun X hB _ => (t_X8_newProtocol_0 hB hf ⟨rfl, rfl⟩))
-- PulseRemote.addProtocol(IIII)I
set_option maxHeartbeats 4000000 in
set_option maxRecDepth 100000 in
theorem t_X11_addProtocol_0 {X : BX} {D : va_G} {cy : Nat → ClassId} {b : Nat} {r : Option Value} {μ' : MS} (hB : BB X D cy b yX11_addProtocol cX11_addProtocol 5 (some .int) rmX11_addProtocol) {l0 : Nat} {l1 : Int32} {l2 : Int32} {l3 : Int32} {l4 : Int32} {μ : MS} {z : (Int32 × MS)} (hf : f_X11_addProtocol l0 l1 l2 l3 l4 μ = some z) (hk : (fun z : Int32 × MS => r = some (.int z.1) ∧ μ' = z.2) z) : WW X D cy b r μ' 5 0 0 0 [(0, .ref (b + l0)), (1, .int l1), (2, .int l2), (3, .int l3), (4, .int l4)] [] μ := by
  unfold f_X11_addProtocol at hf
  refine r_iload_n hB 1 rfl (by decide +kernel : decode cX11_addProtocol 0 = .ok (.iload_n 1, 1)) rfl ?_
  refine r_iconst hB (v := 0) (by decide +kernel : decode cX11_addProtocol 1 = .ok (.iconst 0, 1)) (by decide +kernel) ?_
  refine r_iconst hB (v := 2) (by decide +kernel : decode cX11_addProtocol 2 = .ok (.iconst 2, 1)) (by decide +kernel) ?_
  refine r_cSi hB [.int l1, .int 0, .int 2] [] (own := "PulseRemote") rfl cmX11_inRange smX11_inRange (Or.inl ⟨rfl, k_440⟩) (by decide) rfl rfl rfl (Nat.le_of_ble_eq_true rfl) (by decide +kernel : decode cX11_addProtocol 3 = .ok (.invokestatic 80, 3)) (fun z hz => m_X11_inRange _ _ _ _ hz) rfl hf (fun z3 hf => ?_)
  refine r_if_eq hB (tgt := 38) (by decide +kernel : decode cX11_addProtocol 6 = .ok (.ifCond .eq 32, 3)) (by decide) hf (fun _ hf => ?_) (fun _ hf => ?_)
  · refine r_iconst hB (v := (-1)) (by decide +kernel : decode cX11_addProtocol 38 = .ok (.iconst (-1), 1)) (by decide +kernel) ?_
    obtain rfl := Option.some.inj hf
    obtain ⟨rfl, rfl⟩ := hk
    exact r_iret hB (by decide +kernel : decode cX11_addProtocol 39 = .ok (.ireturn, 1))
  · refine r_iload_n hB 2 rfl (by decide +kernel : decode cX11_addProtocol 9 = .ok (.iload_n 2, 1)) rfl ?_
    refine r_iconst hB (v := 1) (by decide +kernel : decode cX11_addProtocol 10 = .ok (.iconst 1, 1)) (by decide +kernel) ?_
    refine r_bipush hB (v := 16) (by decide +kernel : decode cX11_addProtocol 11 = .ok (.bipush 16, 2)) (by decide +kernel) ?_
    refine r_cSi hB [.int l2, .int 1, .int 16] [] (own := "PulseRemote") rfl cmX11_inRange smX11_inRange (Or.inl ⟨rfl, k_440⟩) (by decide) rfl rfl rfl (Nat.le_of_ble_eq_true rfl) (by decide +kernel : decode cX11_addProtocol 13 = .ok (.invokestatic 80, 3)) (fun z hz => m_X11_inRange _ _ _ _ hz) rfl hf (fun z13 hf => ?_)
    refine r_if_eq hB (tgt := 38) (by decide +kernel : decode cX11_addProtocol 16 = .ok (.ifCond .eq 22, 3)) (by decide) hf (fun _ hf => ?_) (fun _ hf => ?_)
    · refine r_iconst hB (v := (-1)) (by decide +kernel : decode cX11_addProtocol 38 = .ok (.iconst (-1), 1)) (by decide +kernel) ?_
      obtain rfl := Option.some.inj hf
      obtain ⟨rfl, rfl⟩ := hk
      exact r_iret hB (by decide +kernel : decode cX11_addProtocol 39 = .ok (.ireturn, 1))
    · refine r_iload_n hB 3 rfl (by decide +kernel : decode cX11_addProtocol 19 = .ok (.iload_n 3, 1)) rfl ?_
      refine r_iconst hB (v := 0) (by decide +kernel : decode cX11_addProtocol 20 = .ok (.iconst 0, 1)) (by decide +kernel) ?_
      refine r_iconst hB (v := 1) (by decide +kernel : decode cX11_addProtocol 21 = .ok (.iconst 1, 1)) (by decide +kernel) ?_
      refine r_cSi hB [.int l3, .int 0, .int 1] [] (own := "PulseRemote") rfl cmX11_inRange smX11_inRange (Or.inl ⟨rfl, k_440⟩) (by decide) rfl rfl rfl (Nat.le_of_ble_eq_true rfl) (by decide +kernel : decode cX11_addProtocol 22 = .ok (.invokestatic 80, 3)) (fun z hz => m_X11_inRange _ _ _ _ hz) rfl hf (fun z22 hf => ?_)
      refine r_if_eq hB (tgt := 38) (by decide +kernel : decode cX11_addProtocol 25 = .ok (.ifCond .eq 13, 3)) (by decide) hf (fun _ hf => ?_) (fun _ hf => ?_)
      · refine r_iconst hB (v := (-1)) (by decide +kernel : decode cX11_addProtocol 38 = .ok (.iconst (-1), 1)) (by decide +kernel) ?_
        obtain rfl := Option.some.inj hf
        obtain ⟨rfl, rfl⟩ := hk
        exact r_iret hB (by decide +kernel : decode cX11_addProtocol 39 = .ok (.ireturn, 1))
      · refine r_iload hB 4 rfl (by decide +kernel : decode cX11_addProtocol 28 = .ok (.iload 4, 2)) ?_
        refine r_iconst hB (v := 0) (by decide +kernel : decode cX11_addProtocol 30 = .ok (.iconst 0, 1)) (by decide +kernel) ?_
        refine r_iconst hB (v := 2) (by decide +kernel : decode cX11_addProtocol 31 = .ok (.iconst 2, 1)) (by decide +kernel) ?_
        refine r_cSi hB [.int l4, .int 0, .int 2] [] (own := "PulseRemote") rfl cmX11_inRange smX11_inRange (Or.inl ⟨rfl, k_440⟩) (by decide) rfl rfl rfl (Nat.le_of_ble_eq_true rfl) (by decide +kernel : decode cX11_addProtocol 32 = .ok (.invokestatic 80, 3)) (fun z hz => m_X11_inRange _ _ _ _ hz) rfl hf (fun z32 hf => ?_)
        refine r_if_ne hB (tgt := 40) (by decide +kernel : decode cX11_addProtocol 35 = .ok (.ifCond .ne 5, 3)) (by decide) hf (fun _ hf => ?_) (fun _ hf => ?_)
        · refine r_iconst hB (v := (-1)) (by decide +kernel : decode cX11_addProtocol 38 = .ok (.iconst (-1), 1)) (by decide +kernel) ?_
          obtain rfl := Option.some.inj hf
          obtain ⟨rfl, rfl⟩ := hk
          exact r_iret hB (by decide +kernel : decode cX11_addProtocol 39 = .ok (.ireturn, 1))
        · refine r_aload_n hB 0 rfl (by decide +kernel : decode cX11_addProtocol 40 = .ok (.aload_n 0, 1)) rfl ?_
          refine r_gR hB cf11 0 (by decide) (own := "PulseRemote") rfl (Or.inl k_395) (by decide +kernel) (by decide +kernel : decode cX11_addProtocol 41 = .ok (.getfield 12, 3)) hf (fun x41 hf => ?_)
          refine r_gR hB cf7 0 (by decide) (own := "PulseRemote") rfl (Or.inr ⟨_, k_150⟩) (by decide +kernel) (by decide +kernel : decode cX11_addProtocol 44 = .ok (.getfield 84, 3)) hf (fun x44 hf => ?_)
          refine r_cVi hB [] [] cf8 (own := "PulseRemote") rfl cmX8_protocolsFull imX8_protocolsFull (Or.inl k_749) (by decide) rfl rfl rfl (Nat.le_of_ble_eq_true rfl) (by decide +kernel : decode cX11_addProtocol 47 = .ok (.invokevirtual 87, 3)) (fun z hz => m_X8_protocolsFull _ _ _ _ hz) rfl hf (fun z47 hf => ?_)
          refine r_if_eq hB (tgt := 56) (by decide +kernel : decode cX11_addProtocol 50 = .ok (.ifCond .eq 6, 3)) (by decide) hf (fun _ hf => ?_) (fun _ hf => ?_)
          · refine r_aload_n hB 0 rfl (by decide +kernel : decode cX11_addProtocol 56 = .ok (.aload_n 0, 1)) rfl ?_
            refine r_cVv hB [] [] cf11 (own := "PulseRemote") rfl cmX11_saveState imX11_saveState (Or.inl k_443) (by decide) rfl rfl rfl (Nat.le_of_ble_eq_true rfl) (by decide +kernel : decode cX11_addProtocol 57 = .ok (.invokevirtual 91, 3)) (fun z hz => m_X11_saveState _ _ _ _ hz) rfl hf (fun z57 hf => ?_)
            refine r_aload_n hB 0 rfl (by decide +kernel : decode cX11_addProtocol 60 = .ok (.aload_n 0, 1)) rfl ?_
            refine r_gR hB cf11 0 (by decide) (own := "PulseRemote") rfl (Or.inl k_395) (by decide +kernel) (by decide +kernel : decode cX11_addProtocol 61 = .ok (.getfield 12, 3)) hf (fun x61 hf => ?_)
            refine r_gR hB cf7 0 (by decide) (own := "PulseRemote") rfl (Or.inr ⟨_, k_150⟩) (by decide +kernel) (by decide +kernel : decode cX11_addProtocol 64 = .ok (.getfield 84, 3)) hf (fun x64 hf => ?_)
            refine r_iload_n hB 1 rfl (by decide +kernel : decode cX11_addProtocol 67 = .ok (.iload_n 1, 1)) rfl ?_
            refine r_iload_n hB 2 rfl (by decide +kernel : decode cX11_addProtocol 68 = .ok (.iload_n 2, 1)) rfl ?_
            refine r_iload_n hB 3 rfl (by decide +kernel : decode cX11_addProtocol 69 = .ok (.iload_n 3, 1)) rfl ?_
            refine r_iload hB 4 rfl (by decide +kernel : decode cX11_addProtocol 70 = .ok (.iload 4, 2)) ?_
            refine r_cVi hB [.int l1, .int l2, .int l3, .int l4] [] cf8 (own := "PulseRemote") rfl cmX8_newProtocol imX8_newProtocol (Or.inl k_753) (by decide) rfl rfl rfl (Nat.le_of_ble_eq_true rfl) (by decide +kernel : decode cX11_addProtocol 72 = .ok (.invokevirtual 94, 3)) (fun z hz => m_X8_newProtocol _ _ _ _ hz) rfl hf (fun z72 hf => ?_)
            obtain rfl := Option.some.inj hf
            obtain ⟨rfl, rfl⟩ := hk
            exact r_iret hB (by decide +kernel : decode cX11_addProtocol 75 = .ok (.ireturn, 1))
          · refine r_bipush hB (v := (-3)) (by decide +kernel : decode cX11_addProtocol 53 = .ok (.bipush (-3), 2)) (by decide +kernel) ?_
            obtain rfl := Option.some.inj hf
            obtain ⟨rfl, rfl⟩ := hk
            exact r_iret hB (by decide +kernel : decode cX11_addProtocol 55 = .ok (.ireturn, 1))
theorem m_X11_addProtocol (l : Launch) (D : va_G) (cy : Nat → ClassId) (b : Nat) {l0 : Nat} {l1 : Int32} {l2 : Int32} {l3 : Int32} {l4 : Int32} {μ : MS} {z : Int32 × MS} (hf : f_X11_addProtocol l0 l1 l2 l3 l4 μ = some z) : Met l yX11_addProtocol (.code yX11_addProtocol cX11_addProtocol 5 (some .int) :: GW) rmX11_addProtocol (Pw D cy b [.ref (b + l0), .int l1, .int l2, .int l3, .int l4] μ) (Qw D cy b (some (.int z.1)) (z.2)) rmX11_addProtocol.cells rmX11_addProtocol.slots (fun q => b ≤ q) :=
  met_of (by decide) (Nat.le_of_ble_eq_true rfl) (fun X hB _ => (t_X11_addProtocol_0 hB hf ⟨rfl, rfl⟩))
-- PulseRemote$Table.hasProtocol(I)Z
set_option maxHeartbeats 4000000 in
set_option maxRecDepth 100000 in
theorem t_X8_hasProtocol_0 {X : BX} {D : va_G} {cy : Nat → ClassId} {b : Nat} {r : Option Value} {μ' : MS} (hB : BB X D cy b yX8_hasProtocol cX8_hasProtocol 2 (some .boolean) rmX8_hasProtocol) {l0 : Nat} {l1 : Int32} {μ : MS} {z : (Int32 × MS)} (hf : f_X8_hasProtocol l0 l1 μ = some z) (hk : (fun z : Int32 × MS => r = some (.int z.1) ∧ μ' = z.2) z) : WW X D cy b r μ' 2 0 0 0 [(0, .ref (b + l0)), (1, .int l1)] [] μ := by
  unfold f_X8_hasProtocol at hf
  refine r_iload_n hB 1 rfl (by decide +kernel : decode cX8_hasProtocol 0 = .ok (.iload_n 1, 1)) rfl ?_
  refine r_if_lt hB (tgt := 16) (by decide +kernel : decode cX8_hasProtocol 1 = .ok (.ifCond .lt 15, 3)) (by decide) hf (fun _ hf => ?_) (fun _ hf => ?_)
  · refine r_iconst hB (v := 0) (by decide +kernel : decode cX8_hasProtocol 16 = .ok (.iconst 0, 1)) (by decide +kernel) ?_
    obtain rfl := Option.some.inj hf
    obtain ⟨rfl, rfl⟩ := hk
    exact r_zret hB (Or.inl rfl) (by decide +kernel : decode cX8_hasProtocol 17 = .ok (.ireturn, 1))
  · refine r_iload_n hB 1 rfl (by decide +kernel : decode cX8_hasProtocol 4 = .ok (.iload_n 1, 1)) rfl ?_
    refine r_aload_n hB 0 rfl (by decide +kernel : decode cX8_hasProtocol 5 = .ok (.aload_n 0, 1)) rfl ?_
    refine r_gI hB cf8 1 (by decide) (own := "PulseRemote$Table") rfl (Or.inl k_111) (by decide +kernel) (by decide +kernel : decode cX8_hasProtocol 6 = .ok (.getfield 35, 3)) hf (fun x6 hf => ?_)
    refine r_icmp_ge hB (tgt := 16) (by decide +kernel : decode cX8_hasProtocol 9 = .ok (.if_icmp .ge 7, 3)) (by decide) hf (fun _ hf => ?_) (fun _ hf => ?_)
    · refine r_iconst hB (v := 0) (by decide +kernel : decode cX8_hasProtocol 16 = .ok (.iconst 0, 1)) (by decide +kernel) ?_
      obtain rfl := Option.some.inj hf
      obtain ⟨rfl, rfl⟩ := hk
      exact r_zret hB (Or.inl rfl) (by decide +kernel : decode cX8_hasProtocol 17 = .ok (.ireturn, 1))
    · refine r_iconst hB (v := 1) (by decide +kernel : decode cX8_hasProtocol 12 = .ok (.iconst 1, 1)) (by decide +kernel) ?_
      refine r_goto hB (tgt := 17) (by decide +kernel : decode cX8_hasProtocol 13 = .ok (.goto 4, 3)) (by decide) ?_
      obtain rfl := Option.some.inj hf
      obtain ⟨rfl, rfl⟩ := hk
      exact r_zret hB (Or.inr rfl) (by decide +kernel : decode cX8_hasProtocol 17 = .ok (.ireturn, 1))
theorem m_X8_hasProtocol (l : Launch) (D : va_G) (cy : Nat → ClassId) (b : Nat) {l0 : Nat} {l1 : Int32} {μ : MS} {z : Int32 × MS} (hf : f_X8_hasProtocol l0 l1 μ = some z) : Met l yX8_hasProtocol (.code yX8_hasProtocol cX8_hasProtocol 2 (some .boolean) :: GW) rmX8_hasProtocol (Pw D cy b [.ref (b + l0), .int l1] μ) (Qw D cy b (some (.int z.1)) (z.2)) rmX8_hasProtocol.cells rmX8_hasProtocol.slots (fun q => b ≤ q) :=
  met_of (by decide) (Nat.le_of_ble_eq_true rfl) (fun X hB _ => (t_X8_hasProtocol_0 hB hf ⟨rfl, rfl⟩))
-- PulseRemote.isLength(I)Z
set_option maxHeartbeats 4000000 in
set_option maxRecDepth 100000 in
theorem t_X11_isLength_0 {X : BX} {D : va_G} {cy : Nat → ClassId} {b : Nat} {r : Option Value} {μ' : MS} (hB : BB X D cy b yX11_isLength cX11_isLength 1 (some .boolean) rmX11_isLength) {l0 : Int32} {μ : MS} {z : (Int32 × MS)} (hf : f_X11_isLength l0 μ = some z) (hk : (fun z : Int32 × MS => r = some (.int z.1) ∧ μ' = z.2) z) : WW X D cy b r μ' 1 0 0 0 [(0, .int l0)] [] μ := by
  unfold f_X11_isLength at hf
  refine r_iload_n hB 0 rfl (by decide +kernel : decode cX11_isLength 0 = .ok (.iload_n 0, 1)) rfl ?_
  refine r_bipush hB (v := 50) (by decide +kernel : decode cX11_isLength 1 = .ok (.bipush 50, 2)) (by decide +kernel) ?_
  refine r_sipush hB (v := 20000) (by decide +kernel : decode cX11_isLength 3 = .ok (.sipush 20000, 3)) (by decide +kernel) ?_
  refine r_cSi hB [.int l0, .int 50, .int 20000] [] (own := "PulseRemote") rfl cmX11_inRange smX11_inRange (Or.inl ⟨rfl, k_440⟩) (by decide) rfl rfl rfl (Nat.le_of_ble_eq_true rfl) (by decide +kernel : decode cX11_isLength 6 = .ok (.invokestatic 80, 3)) (fun z hz => m_X11_inRange _ _ _ _ hz) rfl hf (fun z6 hf => ?_)
  obtain ⟨hv, rfl⟩ := rZ_inv hf
  obtain ⟨rfl, rfl⟩ := hk
  exact r_zret hB hv (by decide +kernel : decode cX11_isLength 9 = .ok (.ireturn, 1))
theorem m_X11_isLength (l : Launch) (D : va_G) (cy : Nat → ClassId) (b : Nat) {l0 : Int32} {μ : MS} {z : Int32 × MS} (hf : f_X11_isLength l0 μ = some z) : Met l yX11_isLength (.code yX11_isLength cX11_isLength 1 (some .boolean) :: GW) rmX11_isLength (Pw D cy b [.int l0] μ) (Qw D cy b (some (.int z.1)) (z.2)) rmX11_isLength.cells rmX11_isLength.slots (fun q => b ≤ q) :=
  met_of (by decide) (Nat.le_of_ble_eq_true rfl) (fun X hB _ => (t_X11_isLength_0 hB hf ⟨rfl, rfl⟩))
-- PulseRemote.lengthsPossible(IIIIII)Z
set_option maxHeartbeats 4000000 in
set_option maxRecDepth 100000 in
theorem t_X11_lengthsPossible_42 {X : BX} {D : va_G} {cy : Nat → ClassId} {b : Nat} {r : Option Value} {μ' : MS} (hB : BB X D cy b yX11_lengthsPossible cX11_lengthsPossible 6 (some .boolean) rmX11_lengthsPossible)  {μ : MS} {z : (Int32 × MS)} (hf : f_X11_lengthsPossible_42  μ = some z) (hk : (fun z : Int32 × MS => r = some (.int z.1) ∧ μ' = z.2) z) : WW X D cy b r μ' 6 0 0 42 [] [] μ := by
  unfold f_X11_lengthsPossible_42 at hf
  refine r_iconst hB (v := 0) (by decide +kernel : decode cX11_lengthsPossible 42 = .ok (.iconst 0, 1)) (by decide +kernel) ?_
  refine r_goto hB (tgt := 74) (by decide +kernel : decode cX11_lengthsPossible 43 = .ok (.goto 31, 3)) (by decide) ?_
  obtain rfl := Option.some.inj hf
  obtain ⟨rfl, rfl⟩ := hk
  exact r_zret hB (Or.inl rfl) (by decide +kernel : decode cX11_lengthsPossible 74 = .ok (.ireturn, 1))
set_option maxHeartbeats 4000000 in
set_option maxRecDepth 100000 in
theorem t_X11_lengthsPossible_0 {X : BX} {D : va_G} {cy : Nat → ClassId} {b : Nat} {r : Option Value} {μ' : MS} (hB : BB X D cy b yX11_lengthsPossible cX11_lengthsPossible 6 (some .boolean) rmX11_lengthsPossible) {l0 : Int32} {l1 : Int32} {l2 : Int32} {l3 : Int32} {l4 : Int32} {l5 : Int32} {μ : MS} {z : (Int32 × MS)} (hf : f_X11_lengthsPossible l0 l1 l2 l3 l4 l5 μ = some z) (hk : (fun z : Int32 × MS => r = some (.int z.1) ∧ μ' = z.2) z) : WW X D cy b r μ' 6 0 0 0 [(0, .int l0), (1, .int l1), (2, .int l2), (3, .int l3), (4, .int l4), (5, .int l5)] [] μ := by
  unfold f_X11_lengthsPossible at hf
  refine r_iload_n hB 1 rfl (by decide +kernel : decode cX11_lengthsPossible 0 = .ok (.iload_n 1, 1)) rfl ?_
  refine r_cSi hB [.int l1] [] (own := "PulseRemote") rfl cmX11_isLength smX11_isLength (Or.inl ⟨rfl, k_766⟩) (by decide) rfl rfl rfl (Nat.le_of_ble_eq_true rfl) (by decide +kernel : decode cX11_lengthsPossible 1 = .ok (.invokestatic 354, 3)) (fun z hz => m_X11_isLength _ _ _ _ hz) rfl hf (fun z1 hf => ?_)
  refine r_if_eq hB (tgt := 21) (by decide +kernel : decode cX11_lengthsPossible 4 = .ok (.ifCond .eq 17, 3)) (by decide) hf (fun _ hf => ?_) (fun _ hf => ?_)
  · refine r_iconst hB (v := 0) (by decide +kernel : decode cX11_lengthsPossible 21 = .ok (.iconst 0, 1)) (by decide +kernel) ?_
    obtain rfl := Option.some.inj hf
    obtain ⟨rfl, rfl⟩ := hk
    exact r_zret hB (Or.inl rfl) (by decide +kernel : decode cX11_lengthsPossible 22 = .ok (.ireturn, 1))
  · refine r_iload_n hB 2 rfl (by decide +kernel : decode cX11_lengthsPossible 7 = .ok (.iload_n 2, 1)) rfl ?_
    refine r_cSi hB [.int l2] [] (own := "PulseRemote") rfl cmX11_isLength smX11_isLength (Or.inl ⟨rfl, k_766⟩) (by decide) rfl rfl rfl (Nat.le_of_ble_eq_true rfl) (by decide +kernel : decode cX11_lengthsPossible 8 = .ok (.invokestatic 354, 3)) (fun z hz => m_X11_isLength _ _ _ _ hz) rfl hf (fun z8 hf => ?_)
    refine r_if_eq hB (tgt := 21) (by decide +kernel : decode cX11_lengthsPossible 11 = .ok (.ifCond .eq 10, 3)) (by decide) hf (fun _ hf => ?_) (fun _ hf => ?_)
    · refine r_iconst hB (v := 0) (by decide +kernel : decode cX11_lengthsPossible 21 = .ok (.iconst 0, 1)) (by decide +kernel) ?_
      obtain rfl := Option.some.inj hf
      obtain ⟨rfl, rfl⟩ := hk
      exact r_zret hB (Or.inl rfl) (by decide +kernel : decode cX11_lengthsPossible 22 = .ok (.ireturn, 1))
    · refine r_iload_n hB 3 rfl (by decide +kernel : decode cX11_lengthsPossible 14 = .ok (.iload_n 3, 1)) rfl ?_
      refine r_cSi hB [.int l3] [] (own := "PulseRemote") rfl cmX11_isLength smX11_isLength (Or.inl ⟨rfl, k_766⟩) (by decide) rfl rfl rfl (Nat.le_of_ble_eq_true rfl) (by decide +kernel : decode cX11_lengthsPossible 15 = .ok (.invokestatic 354, 3)) (fun z hz => m_X11_isLength _ _ _ _ hz) rfl hf (fun z15 hf => ?_)
      refine r_if_ne hB (tgt := 23) (by decide +kernel : decode cX11_lengthsPossible 18 = .ok (.ifCond .ne 5, 3)) (by decide) hf (fun _ hf => ?_) (fun _ hf => ?_)
      · refine r_iconst hB (v := 0) (by decide +kernel : decode cX11_lengthsPossible 21 = .ok (.iconst 0, 1)) (by decide +kernel) ?_
        obtain rfl := Option.some.inj hf
        obtain ⟨rfl, rfl⟩ := hk
        exact r_zret hB (Or.inl rfl) (by decide +kernel : decode cX11_lengthsPossible 22 = .ok (.ireturn, 1))
      · refine r_iload_n hB 0 rfl (by decide +kernel : decode cX11_lengthsPossible 23 = .ok (.iload_n 0, 1)) rfl ?_
        refine r_iconst hB (v := 2) (by decide +kernel : decode cX11_lengthsPossible 24 = .ok (.iconst 2, 1)) (by decide +kernel) ?_
        refine r_icmp_ne hB (tgt := 46) (by decide +kernel : decode cX11_lengthsPossible 25 = .ok (.if_icmp .ne 21, 3)) (by decide) hf (fun _ hf => ?_) (fun _ hf => ?_)
        · refine r_iload hB 4 rfl (by decide +kernel : decode cX11_lengthsPossible 28 = .ok (.iload 4, 2)) ?_
          refine r_if_ne hB (tgt := 42) (by decide +kernel : decode cX11_lengthsPossible 30 = .ok (.ifCond .ne 12, 3)) (by decide) hf (fun _ hf => ?_) (fun _ hf => ?_)
          · refine r_iload hB 5 rfl (by decide +kernel : decode cX11_lengthsPossible 33 = .ok (.iload 5, 2)) ?_
            refine r_if_ne hB (tgt := 42) (by decide +kernel : decode cX11_lengthsPossible 35 = .ok (.ifCond .ne 7, 3)) (by decide) hf (fun _ hf => ?_) (fun _ hf => ?_)
            · refine r_iconst hB (v := 1) (by decide +kernel : decode cX11_lengthsPossible 38 = .ok (.iconst 1, 1)) (by decide +kernel) ?_
              refine r_goto hB (tgt := 74) (by decide +kernel : decode cX11_lengthsPossible 39 = .ok (.goto 35, 3)) (by decide) ?_
              obtain rfl := Option.some.inj hf
              obtain ⟨rfl, rfl⟩ := hk
              exact r_zret hB (Or.inr rfl) (by decide +kernel : decode cX11_lengthsPossible 74 = .ok (.ireturn, 1))
            · exact WW.sub [] rfl (t_X11_lengthsPossible_42 hB hf hk)
          · exact WW.sub [] rfl (t_X11_lengthsPossible_42 hB hf hk)
        · refine r_iload hB 4 rfl (by decide +kernel : decode cX11_lengthsPossible 46 = .ok (.iload 4, 2)) ?_
          refine r_cSi hB [.int l4] [] (own := "PulseRemote") rfl cmX11_isLength smX11_isLength (Or.inl ⟨rfl, k_766⟩) (by decide) rfl rfl rfl (Nat.le_of_ble_eq_true rfl) (by decide +kernel : decode cX11_lengthsPossible 48 = .ok (.invokestatic 354, 3)) (fun z hz => m_X11_isLength _ _ _ _ hz) rfl hf (fun z48 hf => ?_)
          refine r_if_eq hB (tgt := 73) (by decide +kernel : decode cX11_lengthsPossible 51 = .ok (.ifCond .eq 22, 3)) (by decide) hf (fun _ hf => ?_) (fun _ hf => ?_)
          · refine r_iconst hB (v := 0) (by decide +kernel : decode cX11_lengthsPossible 73 = .ok (.iconst 0, 1)) (by decide +kernel) ?_
            obtain rfl := Option.some.inj hf
            obtain ⟨rfl, rfl⟩ := hk
            exact r_zret hB (Or.inl rfl) (by decide +kernel : decode cX11_lengthsPossible 74 = .ok (.ireturn, 1))
          · refine r_iload hB 5 rfl (by decide +kernel : decode cX11_lengthsPossible 54 = .ok (.iload 5, 2)) ?_
            refine r_cSi hB [.int l5] [] (own := "PulseRemote") rfl cmX11_isLength smX11_isLength (Or.inl ⟨rfl, k_766⟩) (by decide) rfl rfl rfl (Nat.le_of_ble_eq_true rfl) (by decide +kernel : decode cX11_lengthsPossible 56 = .ok (.invokestatic 354, 3)) (fun z hz => m_X11_isLength _ _ _ _ hz) rfl hf (fun z56 hf => ?_)
            refine r_if_eq hB (tgt := 73) (by decide +kernel : decode cX11_lengthsPossible 59 = .ok (.ifCond .eq 14, 3)) (by decide) hf (fun _ hf => ?_) (fun _ hf => ?_)
            · refine r_iconst hB (v := 0) (by decide +kernel : decode cX11_lengthsPossible 73 = .ok (.iconst 0, 1)) (by decide +kernel) ?_
              obtain rfl := Option.some.inj hf
              obtain ⟨rfl, rfl⟩ := hk
              exact r_zret hB (Or.inl rfl) (by decide +kernel : decode cX11_lengthsPossible 74 = .ok (.ireturn, 1))
            · refine r_iload hB 4 rfl (by decide +kernel : decode cX11_lengthsPossible 62 = .ok (.iload 4, 2)) ?_
              refine r_iload hB 5 rfl (by decide +kernel : decode cX11_lengthsPossible 64 = .ok (.iload 5, 2)) ?_
              refine r_icmp_eq hB (tgt := 73) (by decide +kernel : decode cX11_lengthsPossible 66 = .ok (.if_icmp .eq 7, 3)) (by decide) hf (fun _ hf => ?_) (fun _ hf => ?_)
              · refine r_iconst hB (v := 0) (by decide +kernel : decode cX11_lengthsPossible 73 = .ok (.iconst 0, 1)) (by decide +kernel) ?_
                obtain rfl := Option.some.inj hf
                obtain ⟨rfl, rfl⟩ := hk
                exact r_zret hB (Or.inl rfl) (by decide +kernel : decode cX11_lengthsPossible 74 = .ok (.ireturn, 1))
              · refine r_iconst hB (v := 1) (by decide +kernel : decode cX11_lengthsPossible 69 = .ok (.iconst 1, 1)) (by decide +kernel) ?_
                refine r_goto hB (tgt := 74) (by decide +kernel : decode cX11_lengthsPossible 70 = .ok (.goto 4, 3)) (by decide) ?_
                obtain rfl := Option.some.inj hf
                obtain ⟨rfl, rfl⟩ := hk
                exact r_zret hB (Or.inr rfl) (by decide +kernel : decode cX11_lengthsPossible 74 = .ok (.ireturn, 1))
theorem m_X11_lengthsPossible (l : Launch) (D : va_G) (cy : Nat → ClassId) (b : Nat) {l0 : Int32} {l1 : Int32} {l2 : Int32} {l3 : Int32} {l4 : Int32} {l5 : Int32} {μ : MS} {z : Int32 × MS} (hf : f_X11_lengthsPossible l0 l1 l2 l3 l4 l5 μ = some z) : Met l yX11_lengthsPossible (.code yX11_lengthsPossible cX11_lengthsPossible 6 (some .boolean) :: GW) rmX11_lengthsPossible (Pw D cy b [.int l0, .int l1, .int l2, .int l3, .int l4, .int l5] μ) (Qw D cy b (some (.int z.1)) (z.2)) rmX11_lengthsPossible.cells rmX11_lengthsPossible.slots (fun q => b ≤ q) :=
  met_of (by decide) (Nat.le_of_ble_eq_true rfl) (fun X hB _ => (t_X11_lengthsPossible_0 hB hf ⟨rfl, rfl⟩))
-- PulseRemote.setLengths(IIIIII)I
set_option maxHeartbeats 4000000 in
set_option maxRecDepth 100000 in
theorem t_X11_setLengths_0 {X : BX} {D : va_G} {cy : Nat → ClassId} {b : Nat} {r : Option Value} {μ' : MS} (hB : BB X D cy b yX11_setLengths cX11_setLengths 9 (some .int) rmX11_setLengths) {l0 : Nat} {l1 : Int32} {l2 : Int32} {l3 : Int32} {l4 : Int32} {l5 : Int32} {l6 : Int32} {μ : MS} {z : (Int32 × MS)} (hf : f_X11_setLengths l0 l1 l2 l3 l4 l5 l6 μ = some z) (hk : (fun z : Int32 × MS => r = some (.int z.1) ∧ μ' = z.2) z) : WW X D cy b r μ' 9 0 0 0 [(0, .ref (b + l0)), (1, .int l1), (2, .int l2), (3, .int l3), (4, .int l4), (5, .int l5), (6, .int l6)] [] μ := by
  unfold f_X11_setLengths at hf
  refine r_aload_n hB 0 rfl (by decide +kernel : decode cX11_setLengths 0 = .ok (.aload_n 0, 1)) rfl ?_
  refine r_gR hB cf11 0 (by decide) (own := "PulseRemote") rfl (Or.inl k_395) (by decide +kernel) (by decide +kernel : decode cX11_setLengths 1 = .ok (.getfield 12, 3)) hf (fun x1 hf => ?_)
  refine r_gR hB cf7 0 (by decide) (own := "PulseRemote") rfl (Or.inr ⟨_, k_150⟩) (by decide +kernel) (by decide +kernel : decode cX11_setLengths 4 = .ok (.getfield 84, 3)) hf (fun x4 hf => ?_)
  refine r_iload_n hB 1 rfl (by decide +kernel : decode cX11_setLengths 7 = .ok (.iload_n 1, 1)) rfl ?_
  refine r_cVi hB [.int l1] [] cf8 (own := "PulseRemote") rfl cmX8_hasProtocol imX8_hasProtocol (Or.inl k_729) (by decide) rfl rfl rfl (Nat.le_of_ble_eq_true rfl) (by decide +kernel : decode cX11_setLengths 8 = .ok (.invokevirtual 98, 3)) (fun z hz => m_X8_hasProtocol _ _ _ _ hz) rfl hf (fun z8 hf => ?_)
  refine r_if_ne hB (tgt := 16) (by decide +kernel : decode cX11_setLengths 11 = .ok (.ifCond .ne 5, 3)) (by decide) hf (fun _ hf => ?_) (fun _ hf => ?_)
  · refine r_iconst hB (v := (-1)) (by decide +kernel : decode cX11_setLengths 14 = .ok (.iconst (-1), 1)) (by decide +kernel) ?_
    obtain rfl := Option.some.inj hf
    obtain ⟨rfl, rfl⟩ := hk
    exact r_iret hB (by decide +kernel : decode cX11_setLengths 15 = .ok (.ireturn, 1))
  · refine r_aload_n hB 0 rfl (by decide +kernel : decode cX11_setLengths 16 = .ok (.aload_n 0, 1)) rfl ?_
    refine r_gR hB cf11 0 (by decide) (own := "PulseRemote") rfl (Or.inl k_395) (by decide +kernel) (by decide +kernel : decode cX11_setLengths 17 = .ok (.getfield 12, 3)) hf (fun x17 hf => ?_)
    refine r_gR hB cf7 0 (by decide) (own := "PulseRemote") rfl (Or.inr ⟨_, k_150⟩) (by decide +kernel) (by decide +kernel : decode cX11_setLengths 20 = .ok (.getfield 84, 3)) hf (fun x20 hf => ?_)
    refine r_iload_n hB 1 rfl (by decide +kernel : decode cX11_setLengths 23 = .ok (.iload_n 1, 1)) rfl ?_
    refine r_cVr hB [.int l1] [] cf8 (own := "PulseRemote") rfl cmX8_protocolAt imX8_protocolAt (Or.inl k_588) (by decide) rfl rfl rfl (Nat.le_of_ble_eq_true rfl) (by decide +kernel : decode cX11_setLengths 24 = .ok (.invokevirtual 102, 3)) (fun z hz => m_X8_protocolAt _ _ _ _ hz) rfl hf (fun z24 hf => ?_)
    refine r_astore hB (by decide +kernel : decode cX11_setLengths 27 = .ok (.astore 7, 2)) (by decide) rfl ?_
    refine ww_lv (lv' := [(7, .ref (b + z24.1)), (0, .ref (b + l0)), (1, .int l1), (2, .int l2), (3, .int l3), (4, .int l4), (5, .int l5), (6, .int l6)]) rfl ?_
    refine r_aload hB 0 rfl (by decide +kernel : decode cX11_setLengths 29 = .ok (.aload 7, 2)) ?_
    refine r_gI hB cf6 0 (by decide) (own := "PulseRemote") rfl (Or.inr ⟨_, k_64⟩) (by decide +kernel) (by decide +kernel : decode cX11_setLengths 31 = .ok (.getfield 106, 3)) hf (fun x31 hf => ?_)
    refine r_iload_n hB 3 rfl (by decide +kernel : decode cX11_setLengths 34 = .ok (.iload_n 2, 1)) rfl ?_
    refine r_iload_n hB 4 rfl (by decide +kernel : decode cX11_setLengths 35 = .ok (.iload_n 3, 1)) rfl ?_
    refine r_iload hB 5 rfl (by decide +kernel : decode cX11_setLengths 36 = .ok (.iload 4, 2)) ?_
    refine r_iload hB 6 rfl (by decide +kernel : decode cX11_setLengths 38 = .ok (.iload 5, 2)) ?_
    refine r_iload hB 7 rfl (by decide +kernel : decode cX11_setLengths 40 = .ok (.iload 6, 2)) ?_
    refine r_cSi hB [.int x31, .int l2, .int l3, .int l4, .int l5, .int l6] [] (own := "PulseRemote") rfl cmX11_lengthsPossible smX11_lengthsPossible (Or.inl ⟨rfl, k_763⟩) (by decide) rfl rfl rfl (Nat.le_of_ble_eq_true rfl) (by decide +kernel : decode cX11_setLengths 42 = .ok (.invokestatic 112, 3)) (fun z hz => m_X11_lengthsPossible _ _ _ _ hz) rfl hf (fun z42 hf => ?_)
    refine r_if_ne hB (tgt := 50) (by decide +kernel : decode cX11_setLengths 45 = .ok (.ifCond .ne 5, 3)) (by decide) hf (fun _ hf => ?_) (fun _ hf => ?_)
    · refine r_iconst hB (v := (-1)) (by decide +kernel : decode cX11_setLengths 48 = .ok (.iconst (-1), 1)) (by decide +kernel) ?_
      obtain rfl := Option.some.inj hf
      obtain ⟨rfl, rfl⟩ := hk
      exact r_iret hB (by decide +kernel : decode cX11_setLengths 49 = .ok (.ireturn, 1))
    · refine r_aload hB 0 rfl (by decide +kernel : decode cX11_setLengths 50 = .ok (.aload 7, 2)) ?_
      refine r_gI hB cf6 3 (by decide) (own := "PulseRemote") rfl (Or.inr ⟨_, k_73⟩) (by decide +kernel) (by decide +kernel : decode cX11_setLengths 52 = .ok (.getfield 116, 3)) hf (fun x52 hf => ?_)
      refine r_istore hB (by decide +kernel : decode cX11_setLengths 55 = .ok (.istore 8, 2)) (by decide) rfl ?_
      refine ww_lv (lv' := [(8, .int x52), (7, .ref (b + z24.1)), (0, .ref (b + l0)), (1, .int l1), (2, .int l2), (3, .int l3), (4, .int l4), (5, .int l5), (6, .int l6)]) rfl ?_
      refine r_aload_n hB 2 rfl (by decide +kernel : decode cX11_setLengths 57 = .ok (.aload_n 0, 1)) rfl ?_
      refine r_cVv hB [] [] cf11 (own := "PulseRemote") rfl cmX11_saveState imX11_saveState (Or.inl k_443) (by decide) rfl rfl rfl (Nat.le_of_ble_eq_true rfl) (by decide +kernel : decode cX11_setLengths 58 = .ok (.invokevirtual 91, 3)) (fun z hz => m_X11_saveState _ _ _ _ hz) rfl hf (fun z58 hf => ?_)
      refine r_aload hB 1 rfl (by decide +kernel : decode cX11_setLengths 61 = .ok (.aload 7, 2)) ?_
      refine r_iload_n hB 4 rfl (by decide +kernel : decode cX11_setLengths 63 = .ok (.iload_n 2, 1)) rfl ?_
      refine r_iload_n hB 5 rfl (by decide +kernel : decode cX11_setLengths 64 = .ok (.iload_n 3, 1)) rfl ?_
      refine r_iload hB 6 rfl (by decide +kernel : decode cX11_setLengths 65 = .ok (.iload 4, 2)) ?_
      refine r_iload hB 7 rfl (by decide +kernel : decode cX11_setLengths 67 = .ok (.iload 5, 2)) ?_
      refine r_iload hB 8 rfl (by decide +kernel : decode cX11_setLengths 69 = .ok (.iload 6, 2)) ?_
      refine r_cVv hB [.int l2, .int l3, .int l4, .int l5, .int l6] [] cf6 (own := "PulseRemote") rfl cmX6_useLengths imX6_useLengths (Or.inl k_769) (by decide) rfl rfl rfl (Nat.le_of_ble_eq_true rfl) (by decide +kernel : decode cX11_setLengths 71 = .ok (.invokevirtual 119, 3)) (fun z hz => m_X6_useLengths _ _ _ _ hz) rfl hf (fun z71 hf => ?_)
      refine r_iload hB 0 rfl (by decide +kernel : decode cX11_setLengths 74 = .ok (.iload 8, 2)) ?_
      obtain rfl := Option.some.inj hf
      obtain ⟨rfl, rfl⟩ := hk
      exact r_iret hB (by decide +kernel : decode cX11_setLengths 76 = .ok (.ireturn, 1))
theorem m_X11_setLengths (l : Launch) (D : va_G) (cy : Nat → ClassId) (b : Nat) {l0 : Nat} {l1 : Int32} {l2 : Int32} {l3 : Int32} {l4 : Int32} {l5 : Int32} {l6 : Int32} {μ : MS} {z : Int32 × MS} (hf : f_X11_setLengths l0 l1 l2 l3 l4 l5 l6 μ = some z) : Met l yX11_setLengths (.code yX11_setLengths cX11_setLengths 9 (some .int) :: GW) rmX11_setLengths (Pw D cy b [.ref (b + l0), .int l1, .int l2, .int l3, .int l4, .int l5, .int l6] μ) (Qw D cy b (some (.int z.1)) (z.2)) rmX11_setLengths.cells rmX11_setLengths.slots (fun q => b ≤ q) :=
  met_of (by decide) (Nat.le_of_ble_eq_true rfl) (fun X hB _ => (t_X11_setLengths_0 hB hf ⟨rfl, rfl⟩))
-- PulseRemote.protocol(II)I
set_option maxHeartbeats 4000000 in
set_option maxRecDepth 100000 in
theorem t_X11_protocol_0 {X : BX} {D : va_G} {cy : Nat → ClassId} {b : Nat} {r : Option Value} {μ' : MS} (hB : BB X D cy b yX11_protocol cX11_protocol 4 (some .int) rmX11_protocol) {l0 : Nat} {l1 : Int32} {l2 : Int32} {μ : MS} {z : (Int32 × MS)} (hf : f_X11_protocol l0 l1 l2 μ = some z) (hk : (fun z : Int32 × MS => r = some (.int z.1) ∧ μ' = z.2) z) : WW X D cy b r μ' 4 0 0 0 [(0, .ref (b + l0)), (1, .int l1), (2, .int l2)] [] μ := by
  unfold f_X11_protocol at hf
  refine r_aload_n hB 0 rfl (by decide +kernel : decode cX11_protocol 0 = .ok (.aload_n 0, 1)) rfl ?_
  refine r_gR hB cf11 0 (by decide) (own := "PulseRemote") rfl (Or.inl k_395) (by decide +kernel) (by decide +kernel : decode cX11_protocol 1 = .ok (.getfield 12, 3)) hf (fun x1 hf => ?_)
  refine r_gR hB cf7 0 (by decide) (own := "PulseRemote") rfl (Or.inr ⟨_, k_150⟩) (by decide +kernel) (by decide +kernel : decode cX11_protocol 4 = .ok (.getfield 84, 3)) hf (fun x4 hf => ?_)
  refine r_iload_n hB 1 rfl (by decide +kernel : decode cX11_protocol 7 = .ok (.iload_n 1, 1)) rfl ?_
  refine r_cVi hB [.int l1] [] cf8 (own := "PulseRemote") rfl cmX8_hasProtocol imX8_hasProtocol (Or.inl k_729) (by decide) rfl rfl rfl (Nat.le_of_ble_eq_true rfl) (by decide +kernel : decode cX11_protocol 8 = .ok (.invokevirtual 98, 3)) (fun z hz => m_X8_hasProtocol _ _ _ _ hz) rfl hf (fun z8 hf => ?_)
  refine r_if_ne hB (tgt := 16) (by decide +kernel : decode cX11_protocol 11 = .ok (.ifCond .ne 5, 3)) (by decide) hf (fun _ hf => ?_) (fun _ hf => ?_)
  · refine r_iconst hB (v := (-1)) (by decide +kernel : decode cX11_protocol 14 = .ok (.iconst (-1), 1)) (by decide +kernel) ?_
    obtain rfl := Option.some.inj hf
    obtain ⟨rfl, rfl⟩ := hk
    exact r_iret hB (by decide +kernel : decode cX11_protocol 15 = .ok (.ireturn, 1))
  · refine r_aload_n hB 0 rfl (by decide +kernel : decode cX11_protocol 16 = .ok (.aload_n 0, 1)) rfl ?_
    refine r_gR hB cf11 0 (by decide) (own := "PulseRemote") rfl (Or.inl k_395) (by decide +kernel) (by decide +kernel : decode cX11_protocol 17 = .ok (.getfield 12, 3)) hf (fun x17 hf => ?_)
    refine r_gR hB cf7 0 (by decide) (own := "PulseRemote") rfl (Or.inr ⟨_, k_150⟩) (by decide +kernel) (by decide +kernel : decode cX11_protocol 20 = .ok (.getfield 84, 3)) hf (fun x20 hf => ?_)
    refine r_iload_n hB 1 rfl (by decide +kernel : decode cX11_protocol 23 = .ok (.iload_n 1, 1)) rfl ?_
    refine r_cVr hB [.int l1] [] cf8 (own := "PulseRemote") rfl cmX8_protocolAt imX8_protocolAt (Or.inl k_588) (by decide) rfl rfl rfl (Nat.le_of_ble_eq_true rfl) (by decide +kernel : decode cX11_protocol 24 = .ok (.invokevirtual 102, 3)) (fun z hz => m_X8_protocolAt _ _ _ _ hz) rfl hf (fun z24 hf => ?_)
    refine r_astore_n hB (by decide +kernel : decode cX11_protocol 27 = .ok (.astore_n 3, 1)) rfl (by decide) rfl ?_
    refine ww_lv (lv' := [(3, .ref (b + z24.1)), (0, .ref (b + l0)), (1, .int l1), (2, .int l2)]) rfl ?_
    refine r_iload_n hB 3 rfl (by decide +kernel : decode cX11_protocol 28 = .ok (.iload_n 2, 1)) rfl ?_
    rcases if_inv hf with ⟨hc, hf⟩ | ⟨h_0, hf⟩
    · rw [hc]
      refine r_tabIn hB (off := 51) (tgt := 80) (by decide +kernel : decode cX11_protocol 29 = .ok (.tableswitch 96 0 8 #[51, 56, 61, 66, 71, 76, 81, 86, 91], 51)) (by decide) (by decide) (by decide +kernel) (by decide) ?_
      refine r_aload_n hB 0 rfl (by decide +kernel : decode cX11_protocol 80 = .ok (.aload_n 3, 1)) rfl ?_
      refine r_gI hB cf6 0 (by decide) (own := "PulseRemote") rfl (Or.inr ⟨_, k_64⟩) (by decide +kernel) (by decide +kernel : decode cX11_protocol 81 = .ok (.getfield 106, 3)) hf (fun x81 hf => ?_)
      obtain rfl := Option.some.inj hf
      obtain ⟨rfl, rfl⟩ := hk
      exact r_iret hB (by decide +kernel : decode cX11_protocol 84 = .ok (.ireturn, 1))
    rcases if_inv hf with ⟨hc, hf⟩ | ⟨h_1, hf⟩
    · rw [hc]
      refine r_tabIn hB (off := 56) (tgt := 85) (by decide +kernel : decode cX11_protocol 29 = .ok (.tableswitch 96 0 8 #[51, 56, 61, 66, 71, 76, 81, 86, 91], 51)) (by decide) (by decide) (by decide +kernel) (by decide) ?_
      refine r_aload_n hB 0 rfl (by decide +kernel : decode cX11_protocol 85 = .ok (.aload_n 3, 1)) rfl ?_
      refine r_gI hB cf6 1 (by decide) (own := "PulseRemote") rfl (Or.inr ⟨_, k_67⟩) (by decide +kernel) (by decide +kernel : decode cX11_protocol 86 = .ok (.getfield 123, 3)) hf (fun x86 hf => ?_)
      obtain rfl := Option.some.inj hf
      obtain ⟨rfl, rfl⟩ := hk
      exact r_iret hB (by decide +kernel : decode cX11_protocol 89 = .ok (.ireturn, 1))
    rcases if_inv hf with ⟨hc, hf⟩ | ⟨h_2, hf⟩
    · rw [hc]
      refine r_tabIn hB (off := 61) (tgt := 90) (by decide +kernel : decode cX11_protocol 29 = .ok (.tableswitch 96 0 8 #[51, 56, 61, 66, 71, 76, 81, 86, 91], 51)) (by decide) (by decide) (by decide +kernel) (by decide) ?_
      refine r_aload_n hB 0 rfl (by decide +kernel : decode cX11_protocol 90 = .ok (.aload_n 3, 1)) rfl ?_
      refine r_gI hB cf6 2 (by decide) (own := "PulseRemote") rfl (Or.inr ⟨_, k_70⟩) (by decide +kernel) (by decide +kernel : decode cX11_protocol 91 = .ok (.getfield 126, 3)) hf (fun x91 hf => ?_)
      obtain rfl := Option.some.inj hf
      obtain ⟨rfl, rfl⟩ := hk
      exact r_iret hB (by decide +kernel : decode cX11_protocol 94 = .ok (.ireturn, 1))
    rcases if_inv hf with ⟨hc, hf⟩ | ⟨h_3, hf⟩
    · rw [hc]
      refine r_tabIn hB (off := 66) (tgt := 95) (by decide +kernel : decode cX11_protocol 29 = .ok (.tableswitch 96 0 8 #[51, 56, 61, 66, 71, 76, 81, 86, 91], 51)) (by decide) (by decide) (by decide +kernel) (by decide) ?_
      refine r_aload_n hB 0 rfl (by decide +kernel : decode cX11_protocol 95 = .ok (.aload_n 3, 1)) rfl ?_
      refine r_gI hB cf6 3 (by decide) (own := "PulseRemote") rfl (Or.inr ⟨_, k_73⟩) (by decide +kernel) (by decide +kernel : decode cX11_protocol 96 = .ok (.getfield 116, 3)) hf (fun x96 hf => ?_)
      obtain rfl := Option.some.inj hf
      obtain ⟨rfl, rfl⟩ := hk
      exact r_iret hB (by decide +kernel : decode cX11_protocol 99 = .ok (.ireturn, 1))
    rcases if_inv hf with ⟨hc, hf⟩ | ⟨h_4, hf⟩
    · rw [hc]
      refine r_tabIn hB (off := 71) (tgt := 100) (by decide +kernel : decode cX11_protocol 29 = .ok (.tableswitch 96 0 8 #[51, 56, 61, 66, 71, 76, 81, 86, 91], 51)) (by decide) (by decide) (by decide +kernel) (by decide) ?_
      refine r_aload_n hB 0 rfl (by decide +kernel : decode cX11_protocol 100 = .ok (.aload_n 3, 1)) rfl ?_
      refine r_gI hB cf6 4 (by decide) (own := "PulseRemote") rfl (Or.inr ⟨_, k_76⟩) (by decide +kernel) (by decide +kernel : decode cX11_protocol 101 = .ok (.getfield 129, 3)) hf (fun x101 hf => ?_)
      obtain rfl := Option.some.inj hf
      obtain ⟨rfl, rfl⟩ := hk
      exact r_iret hB (by decide +kernel : decode cX11_protocol 104 = .ok (.ireturn, 1))
    rcases if_inv hf with ⟨hc, hf⟩ | ⟨h_5, hf⟩
    · rw [hc]
      refine r_tabIn hB (off := 76) (tgt := 105) (by decide +kernel : decode cX11_protocol 29 = .ok (.tableswitch 96 0 8 #[51, 56, 61, 66, 71, 76, 81, 86, 91], 51)) (by decide) (by decide) (by decide +kernel) (by decide) ?_
      refine r_aload_n hB 0 rfl (by decide +kernel : decode cX11_protocol 105 = .ok (.aload_n 3, 1)) rfl ?_
      refine r_gI hB cf6 5 (by decide) (own := "PulseRemote") rfl (Or.inr ⟨_, k_79⟩) (by decide +kernel) (by decide +kernel : decode cX11_protocol 106 = .ok (.getfield 132, 3)) hf (fun x106 hf => ?_)
      obtain rfl := Option.some.inj hf
      obtain ⟨rfl, rfl⟩ := hk
      exact r_iret hB (by decide +kernel : decode cX11_protocol 109 = .ok (.ireturn, 1))
    rcases if_inv hf with ⟨hc, hf⟩ | ⟨h_6, hf⟩
    · rw [hc]
      refine r_tabIn hB (off := 81) (tgt := 110) (by decide +kernel : decode cX11_protocol 29 = .ok (.tableswitch 96 0 8 #[51, 56, 61, 66, 71, 76, 81, 86, 91], 51)) (by decide) (by decide) (by decide +kernel) (by decide) ?_
      refine r_aload_n hB 0 rfl (by decide +kernel : decode cX11_protocol 110 = .ok (.aload_n 3, 1)) rfl ?_
      refine r_gI hB cf6 6 (by decide) (own := "PulseRemote") rfl (Or.inr ⟨_, k_82⟩) (by decide +kernel) (by decide +kernel : decode cX11_protocol 111 = .ok (.getfield 135, 3)) hf (fun x111 hf => ?_)
      obtain rfl := Option.some.inj hf
      obtain ⟨rfl, rfl⟩ := hk
      exact r_iret hB (by decide +kernel : decode cX11_protocol 114 = .ok (.ireturn, 1))
    rcases if_inv hf with ⟨hc, hf⟩ | ⟨h_7, hf⟩
    · rw [hc]
      refine r_tabIn hB (off := 86) (tgt := 115) (by decide +kernel : decode cX11_protocol 29 = .ok (.tableswitch 96 0 8 #[51, 56, 61, 66, 71, 76, 81, 86, 91], 51)) (by decide) (by decide) (by decide +kernel) (by decide) ?_
      refine r_aload_n hB 0 rfl (by decide +kernel : decode cX11_protocol 115 = .ok (.aload_n 3, 1)) rfl ?_
      refine r_gI hB cf6 7 (by decide) (own := "PulseRemote") rfl (Or.inr ⟨_, k_85⟩) (by decide +kernel) (by decide +kernel : decode cX11_protocol 116 = .ok (.getfield 138, 3)) hf (fun x116 hf => ?_)
      obtain rfl := Option.some.inj hf
      obtain ⟨rfl, rfl⟩ := hk
      exact r_iret hB (by decide +kernel : decode cX11_protocol 119 = .ok (.ireturn, 1))
    rcases if_inv hf with ⟨hc, hf⟩ | ⟨h_8, hf⟩
    · rw [hc]
      refine r_tabIn hB (off := 91) (tgt := 120) (by decide +kernel : decode cX11_protocol 29 = .ok (.tableswitch 96 0 8 #[51, 56, 61, 66, 71, 76, 81, 86, 91], 51)) (by decide) (by decide) (by decide +kernel) (by decide) ?_
      refine r_aload_n hB 0 rfl (by decide +kernel : decode cX11_protocol 120 = .ok (.aload_n 3, 1)) rfl ?_
      refine r_gI hB cf6 8 (by decide) (own := "PulseRemote") rfl (Or.inr ⟨_, k_88⟩) (by decide +kernel) (by decide +kernel : decode cX11_protocol 121 = .ok (.getfield 141, 3)) hf (fun x121 hf => ?_)
      obtain rfl := Option.some.inj hf
      obtain ⟨rfl, rfl⟩ := hk
      exact r_iret hB (by decide +kernel : decode cX11_protocol 124 = .ok (.ireturn, 1))
    refine r_tabOut hB (tgt := 125) (by decide +kernel : decode cX11_protocol 29 = .ok (.tableswitch 96 0 8 #[51, 56, 61, 66, 71, 76, 81, 86, 91], 51)) (by
      have g_0 := lv_neT (a := 0) h_0 (by decide)
      have g_1 := lv_neT (a := 1) h_1 (by decide)
      have g_2 := lv_neT (a := 2) h_2 (by decide)
      have g_3 := lv_neT (a := 3) h_3 (by decide)
      have g_4 := lv_neT (a := 4) h_4 (by decide)
      have g_5 := lv_neT (a := 5) h_5 (by decide)
      have g_6 := lv_neT (a := 6) h_6 (by decide)
      have g_7 := lv_neT (a := 7) h_7 (by decide)
      have g_8 := lv_neT (a := 8) h_8 (by decide)
      omega) (by decide) ?_
    refine r_iconst hB (v := (-1)) (by decide +kernel : decode cX11_protocol 125 = .ok (.iconst (-1), 1)) (by decide +kernel) ?_
    obtain rfl := Option.some.inj hf
    obtain ⟨rfl, rfl⟩ := hk
    exact r_iret hB (by decide +kernel : decode cX11_protocol 126 = .ok (.ireturn, 1))
theorem m_X11_protocol (l : Launch) (D : va_G) (cy : Nat → ClassId) (b : Nat) {l0 : Nat} {l1 : Int32} {l2 : Int32} {μ : MS} {z : Int32 × MS} (hf : f_X11_protocol l0 l1 l2 μ = some z) : Met l yX11_protocol (.code yX11_protocol cX11_protocol 4 (some .int) :: GW) rmX11_protocol (Pw D cy b [.ref (b + l0), .int l1, .int l2] μ) (Qw D cy b (some (.int z.1)) (z.2)) rmX11_protocol.cells rmX11_protocol.slots (fun q => b ≤ q) :=
  met_of (by decide) (Nat.le_of_ble_eq_true rfl) (fun X hB _ => (t_X11_protocol_0 hB hf ⟨rfl, rfl⟩))
-- PulseRemote.count(I)I
set_option maxHeartbeats 4000000 in
set_option maxRecDepth 100000 in
theorem t_X11_count_0 {X : BX} {D : va_G} {cy : Nat → ClassId} {b : Nat} {r : Option Value} {μ' : MS} (hB : BB X D cy b yX11_count cX11_count 2 (some .int) rmX11_count) {l0 : Nat} {l1 : Int32} {μ : MS} {z : (Int32 × MS)} (hf : f_X11_count l0 l1 μ = some z) (hk : (fun z : Int32 × MS => r = some (.int z.1) ∧ μ' = z.2) z) : WW X D cy b r μ' 2 0 0 0 [(0, .ref (b + l0)), (1, .int l1)] [] μ := by
  unfold f_X11_count at hf
  refine r_iload_n hB 1 rfl (by decide +kernel : decode cX11_count 0 = .ok (.iload_n 1, 1)) rfl ?_
  rcases if_inv hf with ⟨hc, hf⟩ | ⟨h_0, hf⟩
  · rw [hc]
    refine r_tabIn hB (off := 31) (tgt := 32) (by decide +kernel : decode cX11_count 1 = .ok (.tableswitch 66 0 3 #[31, 42, 53, 61], 31)) (by decide) (by decide) (by decide +kernel) (by decide) ?_
    refine r_aload_n hB 0 rfl (by decide +kernel : decode cX11_count 32 = .ok (.aload_n 0, 1)) rfl ?_
    refine r_gR hB cf11 0 (by decide) (own := "PulseRemote") rfl (Or.inl k_395) (by decide +kernel) (by decide +kernel : decode cX11_count 33 = .ok (.getfield 12, 3)) hf (fun x33 hf => ?_)
    refine r_gR hB cf7 0 (by decide) (own := "PulseRemote") rfl (Or.inr ⟨_, k_150⟩) (by decide +kernel) (by decide +kernel : decode cX11_count 36 = .ok (.getfield 84, 3)) hf (fun x36 hf => ?_)
    refine r_gI hB cf8 1 (by decide) (own := "PulseRemote") rfl (Or.inr ⟨_, k_113⟩) (by decide +kernel) (by decide +kernel : decode cX11_count 39 = .ok (.getfield 144, 3)) hf (fun x39 hf => ?_)
    obtain rfl := Option.some.inj hf
    obtain ⟨rfl, rfl⟩ := hk
    exact r_iret hB (by decide +kernel : decode cX11_count 42 = .ok (.ireturn, 1))
  rcases if_inv hf with ⟨hc, hf⟩ | ⟨h_1, hf⟩
  · rw [hc]
    refine r_tabIn hB (off := 42) (tgt := 43) (by decide +kernel : decode cX11_count 1 = .ok (.tableswitch 66 0 3 #[31, 42, 53, 61], 31)) (by decide) (by decide) (by decide +kernel) (by decide) ?_
    refine r_aload_n hB 0 rfl (by decide +kernel : decode cX11_count 43 = .ok (.aload_n 0, 1)) rfl ?_
    refine r_gR hB cf11 0 (by decide) (own := "PulseRemote") rfl (Or.inl k_395) (by decide +kernel) (by decide +kernel : decode cX11_count 44 = .ok (.getfield 12, 3)) hf (fun x44 hf => ?_)
    refine r_gR hB cf7 0 (by decide) (own := "PulseRemote") rfl (Or.inr ⟨_, k_150⟩) (by decide +kernel) (by decide +kernel : decode cX11_count 47 = .ok (.getfield 84, 3)) hf (fun x47 hf => ?_)
    refine r_gI hB cf8 4 (by decide) (own := "PulseRemote") rfl (Or.inr ⟨_, k_117⟩) (by decide +kernel) (by decide +kernel : decode cX11_count 50 = .ok (.getfield 147, 3)) hf (fun x50 hf => ?_)
    obtain rfl := Option.some.inj hf
    obtain ⟨rfl, rfl⟩ := hk
    exact r_iret hB (by decide +kernel : decode cX11_count 53 = .ok (.ireturn, 1))
  rcases if_inv hf with ⟨hc, hf⟩ | ⟨h_2, hf⟩
  · rw [hc]
    refine r_tabIn hB (off := 53) (tgt := 54) (by decide +kernel : decode cX11_count 1 = .ok (.tableswitch 66 0 3 #[31, 42, 53, 61], 31)) (by decide) (by decide) (by decide +kernel) (by decide) ?_
    refine r_aload_n hB 0 rfl (by decide +kernel : decode cX11_count 54 = .ok (.aload_n 0, 1)) rfl ?_
    refine r_gR hB cf11 3 (by decide) (own := "PulseRemote") rfl (Or.inl k_398) (by decide +kernel) (by decide +kernel : decode cX11_count 55 = .ok (.getfield 23, 3)) hf (fun x55 hf => ?_)
    refine r_gI hB cf9 1 (by decide) (own := "PulseRemote") rfl (Or.inr ⟨_, k_180⟩) (by decide +kernel) (by decide +kernel : decode cX11_count 58 = .ok (.getfield 150, 3)) hf (fun x58 hf => ?_)
    obtain rfl := Option.some.inj hf
    obtain ⟨rfl, rfl⟩ := hk
    exact r_iret hB (by decide +kernel : decode cX11_count 61 = .ok (.ireturn, 1))
  rcases if_inv hf with ⟨hc, hf⟩ | ⟨h_3, hf⟩
  · rw [hc]
    refine r_tabIn hB (off := 61) (tgt := 62) (by decide +kernel : decode cX11_count 1 = .ok (.tableswitch 66 0 3 #[31, 42, 53, 61], 31)) (by decide) (by decide) (by decide +kernel) (by decide) ?_
    refine r_aload_n hB 0 rfl (by decide +kernel : decode cX11_count 62 = .ok (.aload_n 0, 1)) rfl ?_
    refine r_gI hB cf11 2 (by decide) (own := "PulseRemote") rfl (Or.inl k_397) (by decide +kernel) (by decide +kernel : decode cX11_count 63 = .ok (.getfield 153, 3)) hf (fun x63 hf => ?_)
    obtain rfl := Option.some.inj hf
    obtain ⟨rfl, rfl⟩ := hk
    exact r_iret hB (by decide +kernel : decode cX11_count 66 = .ok (.ireturn, 1))
  refine r_tabOut hB (tgt := 67) (by decide +kernel : decode cX11_count 1 = .ok (.tableswitch 66 0 3 #[31, 42, 53, 61], 31)) (by
    have g_0 := lv_neT (a := 0) h_0 (by decide)
    have g_1 := lv_neT (a := 1) h_1 (by decide)
    have g_2 := lv_neT (a := 2) h_2 (by decide)
    have g_3 := lv_neT (a := 3) h_3 (by decide)
    omega) (by decide) ?_
  refine r_iconst hB (v := (-1)) (by decide +kernel : decode cX11_count 67 = .ok (.iconst (-1), 1)) (by decide +kernel) ?_
  obtain rfl := Option.some.inj hf
  obtain ⟨rfl, rfl⟩ := hk
  exact r_iret hB (by decide +kernel : decode cX11_count 68 = .ok (.ireturn, 1))
theorem m_X11_count (l : Launch) (D : va_G) (cy : Nat → ClassId) (b : Nat) {l0 : Nat} {l1 : Int32} {μ : MS} {z : Int32 × MS} (hf : f_X11_count l0 l1 μ = some z) : Met l yX11_count (.code yX11_count cX11_count 2 (some .int) :: GW) rmX11_count (Pw D cy b [.ref (b + l0), .int l1] μ) (Qw D cy b (some (.int z.1)) (z.2)) rmX11_count.cells rmX11_count.slots (fun q => b ≤ q) :=
  met_of (by decide) (Nat.le_of_ble_eq_true rfl) (fun X hB _ => (t_X11_count_0 hB hf ⟨rfl, rfl⟩))
-- PulseRemote.isSlot(I)Z
set_option maxHeartbeats 4000000 in
set_option maxRecDepth 100000 in
theorem t_X11_isSlot_0 {X : BX} {D : va_G} {cy : Nat → ClassId} {b : Nat} {r : Option Value} {μ' : MS} (hB : BB X D cy b yX11_isSlot cX11_isSlot 1 (some .boolean) rmX11_isSlot) {l0 : Int32} {μ : MS} {z : (Int32 × MS)} (hf : f_X11_isSlot l0 μ = some z) (hk : (fun z : Int32 × MS => r = some (.int z.1) ∧ μ' = z.2) z) : WW X D cy b r μ' 1 0 0 0 [(0, .int l0)] [] μ := by
  unfold f_X11_isSlot at hf
  refine r_iload_n hB 0 rfl (by decide +kernel : decode cX11_isSlot 0 = .ok (.iload_n 0, 1)) rfl ?_
  refine r_if_lt hB (tgt := 13) (by decide +kernel : decode cX11_isSlot 1 = .ok (.ifCond .lt 12, 3)) (by decide) hf (fun _ hf => ?_) (fun _ hf => ?_)
  · refine r_iconst hB (v := 0) (by decide +kernel : decode cX11_isSlot 13 = .ok (.iconst 0, 1)) (by decide +kernel) ?_
    obtain rfl := Option.some.inj hf
    obtain ⟨rfl, rfl⟩ := hk
    exact r_zret hB (Or.inl rfl) (by decide +kernel : decode cX11_isSlot 14 = .ok (.ireturn, 1))
  · refine r_iload_n hB 0 rfl (by decide +kernel : decode cX11_isSlot 4 = .ok (.iload_n 0, 1)) rfl ?_
    refine r_iconst hB (v := 3) (by decide +kernel : decode cX11_isSlot 5 = .ok (.iconst 3, 1)) (by decide +kernel) ?_
    refine r_icmp_ge hB (tgt := 13) (by decide +kernel : decode cX11_isSlot 6 = .ok (.if_icmp .ge 7, 3)) (by decide) hf (fun _ hf => ?_) (fun _ hf => ?_)
    · refine r_iconst hB (v := 0) (by decide +kernel : decode cX11_isSlot 13 = .ok (.iconst 0, 1)) (by decide +kernel) ?_
      obtain rfl := Option.some.inj hf
      obtain ⟨rfl, rfl⟩ := hk
      exact r_zret hB (Or.inl rfl) (by decide +kernel : decode cX11_isSlot 14 = .ok (.ireturn, 1))
    · refine r_iconst hB (v := 1) (by decide +kernel : decode cX11_isSlot 9 = .ok (.iconst 1, 1)) (by decide +kernel) ?_
      refine r_goto hB (tgt := 14) (by decide +kernel : decode cX11_isSlot 10 = .ok (.goto 4, 3)) (by decide) ?_
      obtain rfl := Option.some.inj hf
      obtain ⟨rfl, rfl⟩ := hk
      exact r_zret hB (Or.inr rfl) (by decide +kernel : decode cX11_isSlot 14 = .ok (.ireturn, 1))
theorem m_X11_isSlot (l : Launch) (D : va_G) (cy : Nat → ClassId) (b : Nat) {l0 : Int32} {μ : MS} {z : Int32 × MS} (hf : f_X11_isSlot l0 μ = some z) : Met l yX11_isSlot (.code yX11_isSlot cX11_isSlot 1 (some .boolean) :: GW) rmX11_isSlot (Pw D cy b [.int l0] μ) (Qw D cy b (some (.int z.1)) (z.2)) rmX11_isSlot.cells rmX11_isSlot.slots (fun q => b ≤ q) :=
  met_of (by decide) (Nat.le_of_ble_eq_true rfl) (fun X hB _ => (t_X11_isSlot_0 hB hf ⟨rfl, rfl⟩))
-- PulseRemote$State.trainAt(I)LPulseRemote$Train;
set_option maxHeartbeats 4000000 in
set_option maxRecDepth 100000 in
theorem t_X7_trainAt_0 {X : BX} {D : va_G} {cy : Nat → ClassId} {b : Nat} {r : Option Value} {μ' : MS} (hB : BB X D cy b yX7_trainAt cX7_trainAt 2 (some (.object "PulseRemote$Train")) rmX7_trainAt) {l0 : Nat} {l1 : Int32} {μ : MS} {z : (Nat × MS)} (hf : f_X7_trainAt l0 l1 μ = some z) (hk : (fun z : Nat × MS => r = some (.ref (b + z.1)) ∧ μ' = z.2) z) : WW X D cy b r μ' 2 0 0 0 [(0, .ref (b + l0)), (1, .int l1)] [] μ := by
  unfold f_X7_trainAt at hf
  refine r_aload_n hB 0 rfl (by decide +kernel : decode cX7_trainAt 0 = .ok (.aload_n 0, 1)) rfl ?_
  refine r_gR hB cf7 1 (by decide) (own := "PulseRemote$State") rfl (Or.inl k_151) (by decide +kernel) (by decide +kernel : decode cX7_trainAt 1 = .ok (.getfield 20, 3)) hf (fun x1 hf => ?_)
  refine r_iload_n hB 1 rfl (by decide +kernel : decode cX7_trainAt 4 = .ok (.iload_n 1, 1)) rfl ?_
  refine r_cSi hB [.int l1] [.ref (b + x1)] (own := "PulseRemote$State") rfl cmX11_isSlot smX11_isSlot (Or.inr ⟨_, k_492⟩) (by decide) rfl rfl rfl (Nat.le_of_ble_eq_true rfl) (by decide +kernel : decode cX7_trainAt 5 = .ok (.invokestatic 36, 3)) (fun z hz => m_X11_isSlot _ _ _ _ hz) rfl hf (fun z5 hf => ?_)
  refine r_if_eq hB (tgt := 15) (by decide +kernel : decode cX7_trainAt 8 = .ok (.ifCond .eq 7, 3)) (by decide) hf (fun _ hf => ?_) (fun _ hf => ?_)
  · refine r_iconst hB (v := 0) (by decide +kernel : decode cX7_trainAt 15 = .ok (.iconst 0, 1)) (by decide +kernel) ?_
    refine r_aald hB (t := 20) (C := RX10) (Or.inr (Or.inr ⟨rfl, rfl⟩)) (by decide +kernel : decode cX7_trainAt 16 = .ok (.aaload, 1)) hf (fun x16 hf => ?_)
    obtain rfl := Option.some.inj hf
    obtain ⟨rfl, rfl⟩ := hk
    exact r_aret hB (by decide +kernel : decode cX7_trainAt 17 = .ok (.areturn, 1))
  · refine r_iload_n hB 1 rfl (by decide +kernel : decode cX7_trainAt 11 = .ok (.iload_n 1, 1)) rfl ?_
    refine r_goto hB (tgt := 16) (by decide +kernel : decode cX7_trainAt 12 = .ok (.goto 4, 3)) (by decide) ?_
    refine r_aald hB (t := 20) (C := RX10) (Or.inr (Or.inr ⟨rfl, rfl⟩)) (by decide +kernel : decode cX7_trainAt 16 = .ok (.aaload, 1)) hf (fun x16 hf => ?_)
    obtain rfl := Option.some.inj hf
    obtain ⟨rfl, rfl⟩ := hk
    exact r_aret hB (by decide +kernel : decode cX7_trainAt 17 = .ok (.areturn, 1))
theorem m_X7_trainAt (l : Launch) (D : va_G) (cy : Nat → ClassId) (b : Nat) {l0 : Nat} {l1 : Int32} {μ : MS} {z : Nat × MS} (hf : f_X7_trainAt l0 l1 μ = some z) : Met l yX7_trainAt (.code yX7_trainAt cX7_trainAt 2 (some (.object "PulseRemote$Train")) :: GW) rmX7_trainAt (Pw D cy b [.ref (b + l0), .int l1] μ) (Qw D cy b (some (.ref (b + z.1))) (z.2)) rmX7_trainAt.cells rmX7_trainAt.slots (fun q => b ≤ q) :=
  met_of (by decide) (Nat.le_of_ble_eq_true rfl) (fun X hB _ => (t_X7_trainAt_0 hB hf ⟨rfl, rfl⟩))
-- PulseRemote$Train.endsWithMark()Z
set_option maxHeartbeats 4000000 in
set_option maxRecDepth 100000 in
theorem t_X10_endsWithMark_0 {X : BX} {D : va_G} {cy : Nat → ClassId} {b : Nat} {r : Option Value} {μ' : MS} (hB : BB X D cy b yX10_endsWithMark cX10_endsWithMark 1 (some .boolean) rmX10_endsWithMark) {l0 : Nat} {μ : MS} {z : (Int32 × MS)} (hf : f_X10_endsWithMark l0 μ = some z) (hk : (fun z : Int32 × MS => r = some (.int z.1) ∧ μ' = z.2) z) : WW X D cy b r μ' 1 0 0 0 [(0, .ref (b + l0))] [] μ := by
  unfold f_X10_endsWithMark at hf
  refine r_aload_n hB 0 rfl (by decide +kernel : decode cX10_endsWithMark 0 = .ok (.aload_n 0, 1)) rfl ?_
  refine r_gI hB cf10 1 (by decide) (own := "PulseRemote$Train") rfl (Or.inl k_138) (by decide +kernel) (by decide +kernel : decode cX10_endsWithMark 1 = .ok (.getfield 15, 3)) hf (fun x1 hf => ?_)
  refine r_iconst hB (v := 2) (by decide +kernel : decode cX10_endsWithMark 4 = .ok (.iconst 2, 1)) (by decide +kernel) ?_
  refine r_irem hB (by decide +kernel : decode cX10_endsWithMark 5 = .ok (.irem, 1)) hf (fun v5 hf => ?_)
  refine r_iconst hB (v := 1) (by decide +kernel : decode cX10_endsWithMark 6 = .ok (.iconst 1, 1)) (by decide +kernel) ?_
  refine r_icmp_ne hB (tgt := 14) (by decide +kernel : decode cX10_endsWithMark 7 = .ok (.if_icmp .ne 7, 3)) (by decide) hf (fun _ hf => ?_) (fun _ hf => ?_)
  · refine r_iconst hB (v := 1) (by decide +kernel : decode cX10_endsWithMark 10 = .ok (.iconst 1, 1)) (by decide +kernel) ?_
    refine r_goto hB (tgt := 15) (by decide +kernel : decode cX10_endsWithMark 11 = .ok (.goto 4, 3)) (by decide) ?_
    obtain rfl := Option.some.inj hf
    obtain ⟨rfl, rfl⟩ := hk
    exact r_zret hB (Or.inr rfl) (by decide +kernel : decode cX10_endsWithMark 15 = .ok (.ireturn, 1))
  · refine r_iconst hB (v := 0) (by decide +kernel : decode cX10_endsWithMark 14 = .ok (.iconst 0, 1)) (by decide +kernel) ?_
    obtain rfl := Option.some.inj hf
    obtain ⟨rfl, rfl⟩ := hk
    exact r_zret hB (Or.inl rfl) (by decide +kernel : decode cX10_endsWithMark 15 = .ok (.ireturn, 1))
theorem m_X10_endsWithMark (l : Launch) (D : va_G) (cy : Nat → ClassId) (b : Nat) {l0 : Nat} {μ : MS} {z : Int32 × MS} (hf : f_X10_endsWithMark l0 μ = some z) : Met l yX10_endsWithMark (.code yX10_endsWithMark cX10_endsWithMark 1 (some .boolean) :: GW) rmX10_endsWithMark (Pw D cy b [.ref (b + l0)] μ) (Qw D cy b (some (.int z.1)) (z.2)) rmX10_endsWithMark.cells rmX10_endsWithMark.slots (fun q => b ≤ q) :=
  met_of (by decide) (Nat.le_of_ble_eq_true rfl) (fun X hB _ => (t_X10_endsWithMark_0 hB hf ⟨rfl, rfl⟩))
-- PulseRemote$Train.at(I)I
set_option maxHeartbeats 4000000 in
set_option maxRecDepth 100000 in
theorem t_X10_at_0 {X : BX} {D : va_G} {cy : Nat → ClassId} {b : Nat} {r : Option Value} {μ' : MS} (hB : BB X D cy b yX10_at cX10_at 2 (some .int) rmX10_at) {l0 : Nat} {l1 : Int32} {μ : MS} {z : (Int32 × MS)} (hf : f_X10_at l0 l1 μ = some z) (hk : (fun z : Int32 × MS => r = some (.int z.1) ∧ μ' = z.2) z) : WW X D cy b r μ' 2 0 0 0 [(0, .ref (b + l0)), (1, .int l1)] [] μ := by
  unfold f_X10_at at hf
  refine r_iload_n hB 1 rfl (by decide +kernel : decode cX10_at 0 = .ok (.iload_n 1, 1)) rfl ?_
  refine r_if_lt hB (tgt := 28) (by decide +kernel : decode cX10_at 1 = .ok (.ifCond .lt 27, 3)) (by decide) hf (fun _ hf => ?_) (fun _ hf => ?_)
  · refine r_iconst hB (v := 0) (by decide +kernel : decode cX10_at 28 = .ok (.iconst 0, 1)) (by decide +kernel) ?_
    obtain rfl := Option.some.inj hf
    obtain ⟨rfl, rfl⟩ := hk
    exact r_iret hB (by decide +kernel : decode cX10_at 29 = .ok (.ireturn, 1))
  · refine r_iload_n hB 1 rfl (by decide +kernel : decode cX10_at 4 = .ok (.iload_n 1, 1)) rfl ?_
    refine r_aload_n hB 0 rfl (by decide +kernel : decode cX10_at 5 = .ok (.aload_n 0, 1)) rfl ?_
    refine r_gI hB cf10 1 (by decide) (own := "PulseRemote$Train") rfl (Or.inl k_138) (by decide +kernel) (by decide +kernel : decode cX10_at 6 = .ok (.getfield 15, 3)) hf (fun x6 hf => ?_)
    refine r_icmp_ge hB (tgt := 28) (by decide +kernel : decode cX10_at 9 = .ok (.if_icmp .ge 19, 3)) (by decide) hf (fun _ hf => ?_) (fun _ hf => ?_)
    · refine r_iconst hB (v := 0) (by decide +kernel : decode cX10_at 28 = .ok (.iconst 0, 1)) (by decide +kernel) ?_
      obtain rfl := Option.some.inj hf
      obtain ⟨rfl, rfl⟩ := hk
      exact r_iret hB (by decide +kernel : decode cX10_at 29 = .ok (.ireturn, 1))
    · refine r_iload_n hB 1 rfl (by decide +kernel : decode cX10_at 12 = .ok (.iload_n 1, 1)) rfl ?_
      refine r_sipush hB (v := 200) (by decide +kernel : decode cX10_at 13 = .ok (.sipush 200, 3)) (by decide +kernel) ?_
      refine r_icmp_ge hB (tgt := 28) (by decide +kernel : decode cX10_at 16 = .ok (.if_icmp .ge 12, 3)) (by decide) hf (fun _ hf => ?_) (fun _ hf => ?_)
      · refine r_iconst hB (v := 0) (by decide +kernel : decode cX10_at 28 = .ok (.iconst 0, 1)) (by decide +kernel) ?_
        obtain rfl := Option.some.inj hf
        obtain ⟨rfl, rfl⟩ := hk
        exact r_iret hB (by decide +kernel : decode cX10_at 29 = .ok (.ireturn, 1))
      · refine r_aload_n hB 0 rfl (by decide +kernel : decode cX10_at 19 = .ok (.aload_n 0, 1)) rfl ?_
        refine r_gR hB cf10 0 (by decide) (own := "PulseRemote$Train") rfl (Or.inl k_137) (by decide +kernel) (by decide +kernel : decode cX10_at 20 = .ok (.getfield 9, 3)) hf (fun x20 hf => ?_)
        refine r_iload_n hB 1 rfl (by decide +kernel : decode cX10_at 23 = .ok (.iload_n 1, 1)) rfl ?_
        refine r_iald hB (by decide +kernel : decode cX10_at 24 = .ok (.iaload, 1)) hf (fun x24 hf => ?_)
        refine r_goto hB (tgt := 29) (by decide +kernel : decode cX10_at 25 = .ok (.goto 4, 3)) (by decide) ?_
        obtain rfl := Option.some.inj hf
        obtain ⟨rfl, rfl⟩ := hk
        exact r_iret hB (by decide +kernel : decode cX10_at 29 = .ok (.ireturn, 1))
theorem m_X10_at (l : Launch) (D : va_G) (cy : Nat → ClassId) (b : Nat) {l0 : Nat} {l1 : Int32} {μ : MS} {z : Int32 × MS} (hf : f_X10_at l0 l1 μ = some z) : Met l yX10_at (.code yX10_at cX10_at 2 (some .int) :: GW) rmX10_at (Pw D cy b [.ref (b + l0), .int l1] μ) (Qw D cy b (some (.int z.1)) (z.2)) rmX10_at.cells rmX10_at.slots (fun q => b ≤ q) :=
  met_of (by decide) (Nat.le_of_ble_eq_true rfl) (fun X hB _ => (t_X10_at_0 hB hf ⟨rfl, rfl⟩))
-- PulseRemote$FrameList.note(II)V
set_option maxHeartbeats 4000000 in
set_option maxRecDepth 100000 in
theorem t_X3_note_0 {X : BX} {D : va_G} {cy : Nat → ClassId} {b : Nat} {r : Option Value} {μ' : MS} (hB : BB X D cy b yX3_note cX3_note 3 none rmX3_note) {l0 : Nat} {l1 : Int32} {l2 : Int32} {μ : MS} {z : MS} (hf : f_X3_note l0 l1 l2 μ = some z) (hk : (fun z : MS => r = none ∧ μ' = z) z) : WW X D cy b r μ' 3 0 0 0 [(0, .ref (b + l0)), (1, .int l1), (2, .int l2)] [] μ := by
  unfold f_X3_note at hf
  refine r_aload_n hB 0 rfl (by decide +kernel : decode cX3_note 0 = .ok (.aload_n 0, 1)) rfl ?_
  refine r_gI hB cf3 2 (by decide) (own := "PulseRemote$FrameList") rfl (Or.inl k_207) (by decide +kernel) (by decide +kernel : decode cX3_note 1 = .ok (.getfield 29, 3)) hf (fun x1 hf => ?_)
  refine r_bipush hB (v := 100) (by decide +kernel : decode cX3_note 4 = .ok (.bipush 100, 2)) (by decide +kernel) ?_
  refine r_icmp_ge hB (tgt := 39) (by decide +kernel : decode cX3_note 6 = .ok (.if_icmp .ge 33, 3)) (by decide) hf (fun _ hf => ?_) (fun _ hf => ?_)
  · obtain rfl := Option.some.inj hf
    obtain ⟨rfl, rfl⟩ := hk
    exact r_vret hB (by decide +kernel : decode cX3_note 39 = .ok (.return_, 1))
  · refine r_aload_n hB 0 rfl (by decide +kernel : decode cX3_note 9 = .ok (.aload_n 0, 1)) rfl ?_
    refine r_gR hB cf3 0 (by decide) (own := "PulseRemote$FrameList") rfl (Or.inl k_205) (by decide +kernel) (by decide +kernel : decode cX3_note 10 = .ok (.getfield 9, 3)) hf (fun x10 hf => ?_)
    refine r_aload_n hB 0 rfl (by decide +kernel : decode cX3_note 13 = .ok (.aload_n 0, 1)) rfl ?_
    refine r_gI hB cf3 2 (by decide) (own := "PulseRemote$FrameList") rfl (Or.inl k_207) (by decide +kernel) (by decide +kernel : decode cX3_note 14 = .ok (.getfield 29, 3)) hf (fun x14 hf => ?_)
    refine r_iload_n hB 1 rfl (by decide +kernel : decode cX3_note 17 = .ok (.iload_n 1, 1)) rfl ?_
    refine r_iast hB (by decide +kernel : decode cX3_note 18 = .ok (.iastore, 1)) hf (fun m18 hf => ?_)
    refine r_aload_n hB 0 rfl (by decide +kernel : decode cX3_note 19 = .ok (.aload_n 0, 1)) rfl ?_
    refine r_gR hB cf3 1 (by decide) (own := "PulseRemote$FrameList") rfl (Or.inl k_206) (by decide +kernel) (by decide +kernel : decode cX3_note 20 = .ok (.getfield 15, 3)) hf (fun x20 hf => ?_)
    refine r_aload_n hB 0 rfl (by decide +kernel : decode cX3_note 23 = .ok (.aload_n 0, 1)) rfl ?_
    refine r_gI hB cf3 2 (by decide) (own := "PulseRemote$FrameList") rfl (Or.inl k_207) (by decide +kernel) (by decide +kernel : decode cX3_note 24 = .ok (.getfield 29, 3)) hf (fun x24 hf => ?_)
    refine r_iload_n hB 2 rfl (by decide +kernel : decode cX3_note 27 = .ok (.iload_n 2, 1)) rfl ?_
    refine r_iast hB (by decide +kernel : decode cX3_note 28 = .ok (.iastore, 1)) hf (fun m28 hf => ?_)
    refine r_aload_n hB 0 rfl (by decide +kernel : decode cX3_note 29 = .ok (.aload_n 0, 1)) rfl ?_
    refine r_dup hB (by decide +kernel : decode cX3_note 30 = .ok (.dup, 1)) rfl ?_
    refine r_gI hB cf3 2 (by decide) (own := "PulseRemote$FrameList") rfl (Or.inl k_207) (by decide +kernel) (by decide +kernel : decode cX3_note 31 = .ok (.getfield 29, 3)) hf (fun x31 hf => ?_)
    refine r_iconst hB (v := 1) (by decide +kernel : decode cX3_note 34 = .ok (.iconst 1, 1)) (by decide +kernel) ?_
    refine r_iadd hB (by decide +kernel : decode cX3_note 35 = .ok (.iadd, 1)) ?_
    refine r_pI hB cf3 2 (by decide) (own := "PulseRemote$FrameList") rfl (Or.inl k_207) (Or.inl rfl) rfl (by decide +kernel : decode cX3_note 36 = .ok (.putfield 29, 3)) hf (fun m36 hf => ?_)
    obtain rfl := Option.some.inj hf
    obtain ⟨rfl, rfl⟩ := hk
    exact r_vret hB (by decide +kernel : decode cX3_note 39 = .ok (.return_, 1))
theorem m_X3_note (l : Launch) (D : va_G) (cy : Nat → ClassId) (b : Nat) {l0 : Nat} {l1 : Int32} {l2 : Int32} {μ : MS} {z : MS} (hf : f_X3_note l0 l1 l2 μ = some z) : Met l yX3_note (.code yX3_note cX3_note 3 none :: GW) rmX3_note (Pw D cy b [.ref (b + l0), .int l1, .int l2] μ) (Qw D cy b (none) (z)) rmX3_note.cells rmX3_note.slots (fun q => b ≤ q) :=
  met_of (by decide) (Nat.le_of_ble_eq_true rfl) (fun X hB _ => (t_X3_note_0 hB hf ⟨rfl, rfl⟩))
-- PulseRemote$FrameList.split(LPulseRemote$Train;I)V
set_option maxHeartbeats 4000000 in
set_option maxRecDepth 100000 in
theorem t_X3_split_102 {X : BX} {D : va_G} {cy : Nat → ClassId} {b : Nat} {r : Option Value} {μ' : MS} (hB : BB X D cy b yX3_split cX3_split 6 none rmX3_split) {l0 : Nat} {l3 : Int32} {l4 : Int32} {μ : MS} {z : MS} (hf : f_X3_split_102 l0 l3 l4 μ = some z) (hk : (fun z : MS => r = none ∧ μ' = z) z) : WW X D cy b r μ' 6 0 0 102 [(0, .ref (b + l0)), (3, .int l3), (4, .int l4)] [] μ := by
  unfold f_X3_split_102 at hf
  refine r_aload_n hB 0 rfl (by decide +kernel : decode cX3_split 102 = .ok (.aload_n 0, 1)) rfl ?_
  refine r_iload hB 2 rfl (by decide +kernel : decode cX3_split 103 = .ok (.iload 4, 2)) ?_
  refine r_iload_n hB 1 rfl (by decide +kernel : decode cX3_split 105 = .ok (.iload_n 3, 1)) rfl ?_
  refine r_iload hB 2 rfl (by decide +kernel : decode cX3_split 106 = .ok (.iload 4, 2)) ?_
  refine r_isub hB (by decide +kernel : decode cX3_split 108 = .ok (.isub, 1)) ?_
  refine r_cVv hB [.int l4, .int (l3 - l4)] [] cf3 (own := "PulseRemote$FrameList") rfl cmX3_note imX3_note (Or.inl k_506) (by decide) rfl rfl rfl (Nat.le_of_ble_eq_true rfl) (by decide +kernel : decode cX3_split 109 = .ok (.invokevirtual 44, 3)) (fun z hz => m_X3_note _ _ _ _ hz) rfl hf (fun z109 hf => ?_)
  obtain rfl := Option.some.inj hf
  obtain ⟨rfl, rfl⟩ := hk
  exact r_vret hB (by decide +kernel : decode cX3_split 112 = .ok (.return_, 1))
set_option maxHeartbeats 4000000 in
set_option maxRecDepth 100000 in
theorem t_X3_split_96 {X : BX} {D : va_G} {cy : Nat → ClassId} {b : Nat} {r : Option Value} {μ' : MS} (hB : BB X D cy b yX3_split cX3_split 6 none rmX3_split) {l0 : Nat} {l2 : Int32} {l3 : Int32} {l4 : Int32} {l5 : Int32} {μ : MS} {z : ((Nat × Int32 × Int32 × Int32 × Int32 × MS) ⊕ MS)} (hf : f_X3_split_96 l0 l2 l3 l4 l5 μ = some z) (hk : (Sum.elim (fun s : Nat × Int32 × Int32 × Int32 × Int32 × MS => WW X D cy b r μ' 6 0 0 60 [(0, .ref (b + s.1)), (2, .int s.2.1), (3, .int s.2.2.1), (4, .int s.2.2.2.1), (5, .int s.2.2.2.2.1)] [] s.2.2.2.2.2) (fun z : MS => r = none ∧ μ' = z)) z) : WW X D cy b r μ' 6 0 0 96 [(0, .ref (b + l0)), (2, .int l2), (3, .int l3), (4, .int l4), (5, .int l5)] [] μ := by
  unfold f_X3_split_96 at hf
  refine r_iincB hB 4 rfl (by decide +kernel : decode cX3_split 96 = .ok (.iinc 5 2, 3)) (w := 2) (by decide +kernel) (by decide) hf (fun v96 hf => ?_)
  refine ww_lv (lv' := [(5, .int v96), (0, .ref (b + l0)), (2, .int l2), (3, .int l3), (4, .int l4)]) rfl ?_
  refine r_goto hB (tgt := 60) (by decide +kernel : decode cX3_split 99 = .ok (.goto (-39), 3)) (by decide) ?_
  obtain rfl := Option.some.inj hf
  exact WW.sub [1, 2, 3, 4, 0] rfl hk
set_option maxHeartbeats 4000000 in
set_option maxRecDepth 100000 in
theorem t_X3_split_60_b {X : BX} {D : va_G} {cy : Nat → ClassId} {b : Nat} {r : Option Value} {μ' : MS} (hB : BB X D cy b yX3_split cX3_split 6 none rmX3_split) {l0 : Nat} {l2 : Int32} {l3 : Int32} {l4 : Int32} {l5 : Int32} {μ : MS} {z : ((Nat × Int32 × Int32 × Int32 × Int32 × MS) ⊕ MS)} (hf : f_X3_split_60_b l0 l2 l3 l4 l5 μ = some z) (hk : (Sum.elim (fun s : Nat × Int32 × Int32 × Int32 × Int32 × MS => WW X D cy b r μ' 6 0 0 60 [(0, .ref (b + s.1)), (2, .int s.2.1), (3, .int s.2.2.1), (4, .int s.2.2.2.1), (5, .int s.2.2.2.2.1)] [] s.2.2.2.2.2) (fun z : MS => r = none ∧ μ' = z)) z) : WW X D cy b r μ' 6 0 0 60 [(0, .ref (b + l0)), (2, .int l2), (3, .int l3), (4, .int l4), (5, .int l5)] [] μ := by
  unfold f_X3_split_60_b at hf
  refine r_iload hB 4 rfl (by decide +kernel : decode cX3_split 60 = .ok (.iload 5, 2)) ?_
  refine r_iload_n hB 2 rfl (by decide +kernel : decode cX3_split 62 = .ok (.iload_n 3, 1)) rfl ?_
  refine r_icmp_ge hB (tgt := 102) (by decide +kernel : decode cX3_split 63 = .ok (.if_icmp .ge 39, 3)) (by decide) hf (fun _ hf => ?_) (fun _ hf => ?_)
  · obtain ⟨_, hx0, rfl⟩ := xr_inv hf
    exact WW.sub [0, 2, 3] rfl (t_X3_split_102 hB hx0 hk)
  · refine r_aload_n hB 0 rfl (by decide +kernel : decode cX3_split 66 = .ok (.aload_n 0, 1)) rfl ?_
    refine r_gR hB cf3 3 (by decide) (own := "PulseRemote$FrameList") rfl (Or.inl k_211) (by decide +kernel) (by decide +kernel : decode cX3_split 67 = .ok (.getfield 21, 3)) hf (fun x67 hf => ?_)
    refine r_iload hB 4 rfl (by decide +kernel : decode cX3_split 70 = .ok (.iload 5, 2)) ?_
    refine r_cVi hB [.int l5] [] cf10 (own := "PulseRemote$FrameList") rfl cmX10_at imX10_at (Or.inl k_502) (by decide) rfl rfl rfl (Nat.le_of_ble_eq_true rfl) (by decide +kernel : decode cX3_split 72 = .ok (.invokevirtual 40, 3)) (fun z hz => m_X10_at _ _ _ _ hz) rfl hf (fun z72 hf => ?_)
    refine r_iload_n hB 1 rfl (by decide +kernel : decode cX3_split 75 = .ok (.iload_n 2, 1)) rfl ?_
    refine r_icmp_le hB (tgt := 96) (by decide +kernel : decode cX3_split 76 = .ok (.if_icmp .le 20, 3)) (by decide) hf (fun _ hf => ?_) (fun _ hf => ?_)
    · exact WW.sub [0, 1, 2, 3, 4] rfl (t_X3_split_96 hB hf hk)
    · refine r_aload_n hB 0 rfl (by decide +kernel : decode cX3_split 79 = .ok (.aload_n 0, 1)) rfl ?_
      refine r_iload hB 3 rfl (by decide +kernel : decode cX3_split 80 = .ok (.iload 4, 2)) ?_
      refine r_iload hB 4 rfl (by decide +kernel : decode cX3_split 82 = .ok (.iload 5, 2)) ?_
      refine r_iload hB 3 rfl (by decide +kernel : decode cX3_split 84 = .ok (.iload 4, 2)) ?_
      refine r_isub hB (by decide +kernel : decode cX3_split 86 = .ok (.isub, 1)) ?_
      refine r_cVv hB [.int l4, .int (l5 - l4)] [] cf3 (own := "PulseRemote$FrameList") rfl cmX3_note imX3_note (Or.inl k_506) (by decide) rfl rfl rfl (Nat.le_of_ble_eq_true rfl) (by decide +kernel : decode cX3_split 87 = .ok (.invokevirtual 44, 3)) (fun z hz => m_X3_note _ _ _ _ hz) rfl hf (fun z87 hf => ?_)
      refine r_iload hB 4 rfl (by decide +kernel : decode cX3_split 90 = .ok (.iload 5, 2)) ?_
      refine r_iconst hB (v := 1) (by decide +kernel : decode cX3_split 92 = .ok (.iconst 1, 1)) (by decide +kernel) ?_
      refine r_iadd hB (by decide +kernel : decode cX3_split 93 = .ok (.iadd, 1)) ?_
      refine r_name hf (fun v94 hf => ?_)
      refine r_istore hB (by decide +kernel : decode cX3_split 94 = .ok (.istore 4, 2)) (by decide) rfl ?_
      refine ww_lv (lv' := [(4, .int v94), (0, .ref (b + l0)), (2, .int l2), (3, .int l3), (5, .int l5)]) rfl ?_
      exact WW.sub [1, 2, 3, 0, 4] rfl (t_X3_split_96 hB hf hk)
set_option maxHeartbeats 4000000 in
set_option maxRecDepth 100000 in
theorem t_X3_split_60 {X : BX} {D : va_G} {cy : Nat → ClassId} {b : Nat} {r : Option Value} {μ' : MS} (hB : BB X D cy b yX3_split cX3_split 6 none rmX3_split) {l0 : Nat} {l2 : Int32} {l3 : Int32} {l4 : Int32} {l5 : Int32} {μ : MS} {z : MS} (hf : f_X3_split_60 l0 l2 l3 l4 l5 μ = some z) (hk : (fun z : MS => r = none ∧ μ' = z) z) : WW X D cy b r μ' 6 0 0 60 [(0, .ref (b + l0)), (2, .int l2), (3, .int l3), (4, .int l4), (5, .int l5)] [] μ :=
  lp_ind (P := fun s : Nat × Int32 × Int32 × Int32 × Int32 × MS => WW X D cy b r μ' 6 0 0 60 [(0, .ref (b + s.1)), (2, .int s.2.1), (3, .int s.2.2.1), (4, .int s.2.2.2.1), (5, .int s.2.2.2.2.1)] [] s.2.2.2.2.2) (Q := (fun z : MS => r = none ∧ μ' = z)) (fun s z hz hk => t_X3_split_60_b hB hz hk) (l0, l2, l3, l4, l5, μ) z hf hk
set_option maxHeartbeats 4000000 in
set_option maxRecDepth 100000 in
theorem t_X3_split_53 {X : BX} {D : va_G} {cy : Nat → ClassId} {b : Nat} {r : Option Value} {μ' : MS} (hB : BB X D cy b yX3_split cX3_split 6 none rmX3_split) {l0 : Nat} {l2 : Int32} {s0 : Int32} {μ : MS} {z : MS} (hf : f_X3_split_53 l0 l2 s0 μ = some z) (hk : (fun z : MS => r = none ∧ μ' = z) z) : WW X D cy b r μ' 6 0 0 53 [(0, .ref (b + l0)), (2, .int l2)] [.int s0] μ := by
  unfold f_X3_split_53 at hf
  refine r_istore_n hB (by decide +kernel : decode cX3_split 53 = .ok (.istore_n 3, 1)) rfl (by decide) rfl ?_
  refine ww_lv (lv' := [(3, .int s0), (0, .ref (b + l0)), (2, .int l2)]) rfl ?_
  refine r_iconst hB (v := 0) (by decide +kernel : decode cX3_split 54 = .ok (.iconst 0, 1)) (by decide +kernel) ?_
  refine r_istore hB (by decide +kernel : decode cX3_split 55 = .ok (.istore 4, 2)) (by decide) rfl ?_
  refine ww_lv (lv' := [(4, .int 0), (3, .int s0), (0, .ref (b + l0)), (2, .int l2)]) rfl ?_
  refine r_iconst hB (v := 1) (by decide +kernel : decode cX3_split 57 = .ok (.iconst 1, 1)) (by decide +kernel) ?_
  refine r_istore hB (by decide +kernel : decode cX3_split 58 = .ok (.istore 5, 2)) (by decide) rfl ?_
  refine ww_lv (lv' := [(5, .int 1), (4, .int 0), (3, .int s0), (0, .ref (b + l0)), (2, .int l2)]) rfl ?_
  exact WW.sub [3, 4, 2, 1, 0] rfl (t_X3_split_60 hB hf hk)
set_option maxHeartbeats 4000000 in
set_option maxRecDepth 100000 in
theorem t_X3_split_0 {X : BX} {D : va_G} {cy : Nat → ClassId} {b : Nat} {r : Option Value} {μ' : MS} (hB : BB X D cy b yX3_split cX3_split 6 none rmX3_split) {l0 : Nat} {l1 : Nat} {l2 : Int32} {μ : MS} {z : MS} (hf : f_X3_split l0 l1 l2 μ = some z) (hk : (fun z : MS => r = none ∧ μ' = z) z) : WW X D cy b r μ' 6 0 0 0 [(0, .ref (b + l0)), (1, .ref (b + l1)), (2, .int l2)] [] μ := by
  unfold f_X3_split at hf
  refine r_aload_n hB 0 rfl (by decide +kernel : decode cX3_split 0 = .ok (.aload_n 0, 1)) rfl ?_
  refine r_gR hB cf3 3 (by decide) (own := "PulseRemote$FrameList") rfl (Or.inl k_211) (by decide +kernel) (by decide +kernel : decode cX3_split 1 = .ok (.getfield 21, 3)) hf (fun x1 hf => ?_)
  refine r_aload_n hB 1 rfl (by decide +kernel : decode cX3_split 4 = .ok (.aload_n 1, 1)) rfl ?_
  refine r_cVv hB [.ref (b + l1)] [] cf10 (own := "PulseRemote$FrameList") rfl cmX10_copyFrom imX10_copyFrom (Or.inl k_497) (by decide) rfl rfl rfl (Nat.le_of_ble_eq_true rfl) (by decide +kernel : decode cX3_split 5 = .ok (.invokevirtual 25, 3)) (fun z hz => m_X10_copyFrom _ _ _ _ hz) rfl hf (fun z5 hf => ?_)
  refine r_aload_n hB 0 rfl (by decide +kernel : decode cX3_split 8 = .ok (.aload_n 0, 1)) rfl ?_
  refine r_iconst hB (v := 0) (by decide +kernel : decode cX3_split 9 = .ok (.iconst 0, 1)) (by decide +kernel) ?_
  refine r_pI hB cf3 2 (by decide) (own := "PulseRemote$FrameList") rfl (Or.inl k_207) (Or.inl rfl) rfl (by decide +kernel : decode cX3_split 10 = .ok (.putfield 29, 3)) hf (fun m10 hf => ?_)
  refine r_aload_n hB 0 rfl (by decide +kernel : decode cX3_split 13 = .ok (.aload_n 0, 1)) rfl ?_
  refine r_gR hB cf3 3 (by decide) (own := "PulseRemote$FrameList") rfl (Or.inl k_211) (by decide +kernel) (by decide +kernel : decode cX3_split 14 = .ok (.getfield 21, 3)) hf (fun x14 hf => ?_)
  refine r_gI hB cf10 1 (by decide) (own := "PulseRemote$FrameList") rfl (Or.inr ⟨_, k_139⟩) (by decide +kernel) (by decide +kernel : decode cX3_split 17 = .ok (.getfield 33, 3)) hf (fun x17 hf => ?_)
  refine r_if_ne hB (tgt := 24) (by decide +kernel : decode cX3_split 20 = .ok (.ifCond .ne 4, 3)) (by decide) hf (fun _ hf => ?_) (fun _ hf => ?_)
  · obtain rfl := Option.some.inj hf
    obtain ⟨rfl, rfl⟩ := hk
    exact r_vret hB (by decide +kernel : decode cX3_split 23 = .ok (.return_, 1))
  · refine r_aload_n hB 0 rfl (by decide +kernel : decode cX3_split 24 = .ok (.aload_n 0, 1)) rfl ?_
    refine r_gR hB cf3 3 (by decide) (own := "PulseRemote$FrameList") rfl (Or.inl k_211) (by decide +kernel) (by decide +kernel : decode cX3_split 25 = .ok (.getfield 21, 3)) hf (fun x25 hf => ?_)
    refine r_cVi hB [] [] cf10 (own := "PulseRemote$FrameList") rfl cmX10_endsWithMark imX10_endsWithMark (Or.inl k_498) (by decide) rfl rfl rfl (Nat.le_of_ble_eq_true rfl) (by decide +kernel : decode cX3_split 28 = .ok (.invokevirtual 36, 3)) (fun z hz => m_X10_endsWithMark _ _ _ _ hz) rfl hf (fun z28 hf => ?_)
    refine r_if_eq hB (tgt := 44) (by decide +kernel : decode cX3_split 31 = .ok (.ifCond .eq 13, 3)) (by decide) hf (fun _ hf => ?_) (fun _ hf => ?_)
    · refine r_aload_n hB 0 rfl (by decide +kernel : decode cX3_split 44 = .ok (.aload_n 0, 1)) rfl ?_
      refine r_gR hB cf3 3 (by decide) (own := "PulseRemote$FrameList") rfl (Or.inl k_211) (by decide +kernel) (by decide +kernel : decode cX3_split 45 = .ok (.getfield 21, 3)) hf (fun x45 hf => ?_)
      refine r_gI hB cf10 1 (by decide) (own := "PulseRemote$FrameList") rfl (Or.inr ⟨_, k_139⟩) (by decide +kernel) (by decide +kernel : decode cX3_split 48 = .ok (.getfield 33, 3)) hf (fun x48 hf => ?_)
      refine r_iconst hB (v := 1) (by decide +kernel : decode cX3_split 51 = .ok (.iconst 1, 1)) (by decide +kernel) ?_
      refine r_isub hB (by decide +kernel : decode cX3_split 52 = .ok (.isub, 1)) ?_
      exact WW.sub [0, 2] rfl (t_X3_split_53 hB hf hk)
    · refine r_aload_n hB 0 rfl (by decide +kernel : decode cX3_split 34 = .ok (.aload_n 0, 1)) rfl ?_
      refine r_gR hB cf3 3 (by decide) (own := "PulseRemote$FrameList") rfl (Or.inl k_211) (by decide +kernel) (by decide +kernel : decode cX3_split 35 = .ok (.getfield 21, 3)) hf (fun x35 hf => ?_)
      refine r_gI hB cf10 1 (by decide) (own := "PulseRemote$FrameList") rfl (Or.inr ⟨_, k_139⟩) (by decide +kernel) (by decide +kernel : decode cX3_split 38 = .ok (.getfield 33, 3)) hf (fun x38 hf => ?_)
      refine r_goto hB (tgt := 53) (by decide +kernel : decode cX3_split 41 = .ok (.goto 12, 3)) (by decide) ?_
      exact WW.sub [0, 2] rfl (t_X3_split_53 hB hf hk)
theorem m_X3_split (l : Launch) (D : va_G) (cy : Nat → ClassId) (b : Nat) {l0 : Nat} {l1 : Nat} {l2 : Int32} {μ : MS} {z : MS} (hf : f_X3_split l0 l1 l2 μ = some z) : Met l yX3_split (.code yX3_split cX3_split 6 none :: GW) rmX3_split (Pw D cy b [.ref (b + l0), .ref (b + l1), .int l2] μ) (Qw D cy b (none) (z)) rmX3_split.cells rmX3_split.slots (fun q => b ≤ q) :=
  met_of (by decide) (Nat.le_of_ble_eq_true rfl) (fun X hB _ => (t_X3_split_0 hB hf ⟨rfl, rfl⟩))
-- PulseRemote$FrameList.sizeOf(I)I
set_option maxHeartbeats 4000000 in
set_option maxRecDepth 100000 in
theorem t_X3_sizeOf_0 {X : BX} {D : va_G} {cy : Nat → ClassId} {b : Nat} {r : Option Value} {μ' : MS} (hB : BB X D cy b yX3_sizeOf cX3_sizeOf 2 (some .int) rmX3_sizeOf) {l0 : Nat} {l1 : Int32} {μ : MS} {z : (Int32 × MS)} (hf : f_X3_sizeOf l0 l1 μ = some z) (hk : (fun z : Int32 × MS => r = some (.int z.1) ∧ μ' = z.2) z) : WW X D cy b r μ' 2 0 0 0 [(0, .ref (b + l0)), (1, .int l1)] [] μ := by
  unfold f_X3_sizeOf at hf
  refine r_iload_n hB 1 rfl (by decide +kernel : decode cX3_sizeOf 0 = .ok (.iload_n 1, 1)) rfl ?_
  refine r_if_lt hB (tgt := 21) (by decide +kernel : decode cX3_sizeOf 1 = .ok (.ifCond .lt 20, 3)) (by decide) hf (fun _ hf => ?_) (fun _ hf => ?_)
  · refine r_iconst hB (v := 0) (by decide +kernel : decode cX3_sizeOf 21 = .ok (.iconst 0, 1)) (by decide +kernel) ?_
    obtain rfl := Option.some.inj hf
    obtain ⟨rfl, rfl⟩ := hk
    exact r_iret hB (by decide +kernel : decode cX3_sizeOf 22 = .ok (.ireturn, 1))
  · refine r_iload_n hB 1 rfl (by decide +kernel : decode cX3_sizeOf 4 = .ok (.iload_n 1, 1)) rfl ?_
    refine r_aload_n hB 0 rfl (by decide +kernel : decode cX3_sizeOf 5 = .ok (.aload_n 0, 1)) rfl ?_
    refine r_gI hB cf3 2 (by decide) (own := "PulseRemote$FrameList") rfl (Or.inl k_207) (by decide +kernel) (by decide +kernel : decode cX3_sizeOf 6 = .ok (.getfield 29, 3)) hf (fun x6 hf => ?_)
    refine r_icmp_ge hB (tgt := 21) (by decide +kernel : decode cX3_sizeOf 9 = .ok (.if_icmp .ge 12, 3)) (by decide) hf (fun _ hf => ?_) (fun _ hf => ?_)
    · refine r_iconst hB (v := 0) (by decide +kernel : decode cX3_sizeOf 21 = .ok (.iconst 0, 1)) (by decide +kernel) ?_
      obtain rfl := Option.some.inj hf
      obtain ⟨rfl, rfl⟩ := hk
      exact r_iret hB (by decide +kernel : decode cX3_sizeOf 22 = .ok (.ireturn, 1))
    · refine r_aload_n hB 0 rfl (by decide +kernel : decode cX3_sizeOf 12 = .ok (.aload_n 0, 1)) rfl ?_
      refine r_gR hB cf3 1 (by decide) (own := "PulseRemote$FrameList") rfl (Or.inl k_206) (by decide +kernel) (by decide +kernel : decode cX3_sizeOf 13 = .ok (.getfield 15, 3)) hf (fun x13 hf => ?_)
      refine r_iload_n hB 1 rfl (by decide +kernel : decode cX3_sizeOf 16 = .ok (.iload_n 1, 1)) rfl ?_
      refine r_iald hB (by decide +kernel : decode cX3_sizeOf 17 = .ok (.iaload, 1)) hf (fun x17 hf => ?_)
      refine r_goto hB (tgt := 22) (by decide +kernel : decode cX3_sizeOf 18 = .ok (.goto 4, 3)) (by decide) ?_
      obtain rfl := Option.some.inj hf
      obtain ⟨rfl, rfl⟩ := hk
      exact r_iret hB (by decide +kernel : decode cX3_sizeOf 22 = .ok (.ireturn, 1))
theorem m_X3_sizeOf (l : Launch) (D : va_G) (cy : Nat → ClassId) (b : Nat) {l0 : Nat} {l1 : Int32} {μ : MS} {z : Int32 × MS} (hf : f_X3_sizeOf l0 l1 μ = some z) : Met l yX3_sizeOf (.code yX3_sizeOf cX3_sizeOf 2 (some .int) :: GW) rmX3_sizeOf (Pw D cy b [.ref (b + l0), .int l1] μ) (Qw D cy b (some (.int z.1)) (z.2)) rmX3_sizeOf.cells rmX3_sizeOf.slots (fun q => b ≤ q) :=
  met_of (by decide) (Nat.le_of_ble_eq_true rfl) (fun X hB _ => (t_X3_sizeOf_0 hB hf ⟨rfl, rfl⟩))
-- PulseRemote$Clusters.makeEmpty()V
set_option maxHeartbeats 4000000 in
set_option maxRecDepth 100000 in
theorem t_X0_makeEmpty_0 {X : BX} {D : va_G} {cy : Nat → ClassId} {b : Nat} {r : Option Value} {μ' : MS} (hB : BB X D cy b yX0_makeEmpty cX0_makeEmpty 1 none rmX0_makeEmpty) {l0 : Nat} {μ : MS} {z : MS} (hf : f_X0_makeEmpty l0 μ = some z) (hk : (fun z : MS => r = none ∧ μ' = z) z) : WW X D cy b r μ' 1 0 0 0 [(0, .ref (b + l0))] [] μ := by
  unfold f_X0_makeEmpty at hf
  refine r_aload_n hB 0 rfl (by decide +kernel : decode cX0_makeEmpty 0 = .ok (.aload_n 0, 1)) rfl ?_
  refine r_iconst hB (v := 0) (by decide +kernel : decode cX0_makeEmpty 1 = .ok (.iconst 0, 1)) (by decide +kernel) ?_
  refine r_pI hB cf0 1 (by decide) (own := "PulseRemote$Clusters") rfl (Or.inl k_300) (Or.inl rfl) rfl (by decide +kernel : decode cX0_makeEmpty 2 = .ok (.putfield 15, 3)) hf (fun m2 hf => ?_)
  obtain rfl := Option.some.inj hf
  obtain ⟨rfl, rfl⟩ := hk
  exact r_vret hB (by decide +kernel : decode cX0_makeEmpty 5 = .ok (.return_, 1))
theorem m_X0_makeEmpty (l : Launch) (D : va_G) (cy : Nat → ClassId) (b : Nat) {l0 : Nat} {μ : MS} {z : MS} (hf : f_X0_makeEmpty l0 μ = some z) : Met l yX0_makeEmpty (.code yX0_makeEmpty cX0_makeEmpty 1 none :: GW) rmX0_makeEmpty (Pw D cy b [.ref (b + l0)] μ) (Qw D cy b (none) (z)) rmX0_makeEmpty.cells rmX0_makeEmpty.slots (fun q => b ≤ q) :=
  met_of (by decide) (Nat.le_of_ble_eq_true rfl) (fun X hB _ => (t_X0_makeEmpty_0 hB hf ⟨rfl, rfl⟩))
-- PulseRemote$FrameList.startOf(I)I
set_option maxHeartbeats 4000000 in
set_option maxRecDepth 100000 in
theorem t_X3_startOf_0 {X : BX} {D : va_G} {cy : Nat → ClassId} {b : Nat} {r : Option Value} {μ' : MS} (hB : BB X D cy b yX3_startOf cX3_startOf 2 (some .int) rmX3_startOf) {l0 : Nat} {l1 : Int32} {μ : MS} {z : (Int32 × MS)} (hf : f_X3_startOf l0 l1 μ = some z) (hk : (fun z : Int32 × MS => r = some (.int z.1) ∧ μ' = z.2) z) : WW X D cy b r μ' 2 0 0 0 [(0, .ref (b + l0)), (1, .int l1)] [] μ := by
  unfold f_X3_startOf at hf
  refine r_iload_n hB 1 rfl (by decide +kernel : decode cX3_startOf 0 = .ok (.iload_n 1, 1)) rfl ?_
  refine r_if_lt hB (tgt := 21) (by decide +kernel : decode cX3_startOf 1 = .ok (.ifCond .lt 20, 3)) (by decide) hf (fun _ hf => ?_) (fun _ hf => ?_)
  · refine r_iconst hB (v := 0) (by decide +kernel : decode cX3_startOf 21 = .ok (.iconst 0, 1)) (by decide +kernel) ?_
    obtain rfl := Option.some.inj hf
    obtain ⟨rfl, rfl⟩ := hk
    exact r_iret hB (by decide +kernel : decode cX3_startOf 22 = .ok (.ireturn, 1))
  · refine r_iload_n hB 1 rfl (by decide +kernel : decode cX3_startOf 4 = .ok (.iload_n 1, 1)) rfl ?_
    refine r_aload_n hB 0 rfl (by decide +kernel : decode cX3_startOf 5 = .ok (.aload_n 0, 1)) rfl ?_
    refine r_gI hB cf3 2 (by decide) (own := "PulseRemote$FrameList") rfl (Or.inl k_207) (by decide +kernel) (by decide +kernel : decode cX3_startOf 6 = .ok (.getfield 29, 3)) hf (fun x6 hf => ?_)
    refine r_icmp_ge hB (tgt := 21) (by decide +kernel : decode cX3_startOf 9 = .ok (.if_icmp .ge 12, 3)) (by decide) hf (fun _ hf => ?_) (fun _ hf => ?_)
    · refine r_iconst hB (v := 0) (by decide +kernel : decode cX3_startOf 21 = .ok (.iconst 0, 1)) (by decide +kernel) ?_
      obtain rfl := Option.some.inj hf
      obtain ⟨rfl, rfl⟩ := hk
      exact r_iret hB (by decide +kernel : decode cX3_startOf 22 = .ok (.ireturn, 1))
    · refine r_aload_n hB 0 rfl (by decide +kernel : decode cX3_startOf 12 = .ok (.aload_n 0, 1)) rfl ?_
      refine r_gR hB cf3 0 (by decide) (own := "PulseRemote$FrameList") rfl (Or.inl k_205) (by decide +kernel) (by decide +kernel : decode cX3_startOf 13 = .ok (.getfield 9, 3)) hf (fun x13 hf => ?_)
      refine r_iload_n hB 1 rfl (by decide +kernel : decode cX3_startOf 16 = .ok (.iload_n 1, 1)) rfl ?_
      refine r_iald hB (by decide +kernel : decode cX3_startOf 17 = .ok (.iaload, 1)) hf (fun x17 hf => ?_)
      refine r_goto hB (tgt := 22) (by decide +kernel : decode cX3_startOf 18 = .ok (.goto 4, 3)) (by decide) ?_
      obtain rfl := Option.some.inj hf
      obtain ⟨rfl, rfl⟩ := hk
      exact r_iret hB (by decide +kernel : decode cX3_startOf 22 = .ok (.ireturn, 1))
theorem m_X3_startOf (l : Launch) (D : va_G) (cy : Nat → ClassId) (b : Nat) {l0 : Nat} {l1 : Int32} {μ : MS} {z : Int32 × MS} (hf : f_X3_startOf l0 l1 μ = some z) : Met l yX3_startOf (.code yX3_startOf cX3_startOf 2 (some .int) :: GW) rmX3_startOf (Pw D cy b [.ref (b + l0), .int l1] μ) (Qw D cy b (some (.int z.1)) (z.2)) rmX3_startOf.cells rmX3_startOf.slots (fun q => b ≤ q) :=
  met_of (by decide) (Nat.le_of_ble_eq_true rfl) (fun X hB _ => (t_X3_startOf_0 hB hf ⟨rfl, rfl⟩))
-- PulseRemote$FrameList.durationAt(II)I
set_option maxHeartbeats 4000000 in
set_option maxRecDepth 100000 in
theorem t_X3_durationAt_0 {X : BX} {D : va_G} {cy : Nat → ClassId} {b : Nat} {r : Option Value} {μ' : MS} (hB : BB X D cy b yX3_durationAt cX3_durationAt 3 (some .int) rmX3_durationAt) {l0 : Nat} {l1 : Int32} {l2 : Int32} {μ : MS} {z : (Int32 × MS)} (hf : f_X3_durationAt l0 l1 l2 μ = some z) (hk : (fun z : Int32 × MS => r = some (.int z.1) ∧ μ' = z.2) z) : WW X D cy b r μ' 3 0 0 0 [(0, .ref (b + l0)), (1, .int l1), (2, .int l2)] [] μ := by
  unfold f_X3_durationAt at hf
  refine r_iload_n hB 2 rfl (by decide +kernel : decode cX3_durationAt 0 = .ok (.iload_n 2, 1)) rfl ?_
  refine r_if_lt hB (tgt := 30) (by decide +kernel : decode cX3_durationAt 1 = .ok (.ifCond .lt 29, 3)) (by decide) hf (fun _ hf => ?_) (fun _ hf => ?_)
  · refine r_iconst hB (v := 0) (by decide +kernel : decode cX3_durationAt 30 = .ok (.iconst 0, 1)) (by decide +kernel) ?_
    obtain rfl := Option.some.inj hf
    obtain ⟨rfl, rfl⟩ := hk
    exact r_iret hB (by decide +kernel : decode cX3_durationAt 31 = .ok (.ireturn, 1))
  · refine r_iload_n hB 2 rfl (by decide +kernel : decode cX3_durationAt 4 = .ok (.iload_n 2, 1)) rfl ?_
    refine r_aload_n hB 0 rfl (by decide +kernel : decode cX3_durationAt 5 = .ok (.aload_n 0, 1)) rfl ?_
    refine r_iload_n hB 1 rfl (by decide +kernel : decode cX3_durationAt 6 = .ok (.iload_n 1, 1)) rfl ?_
    refine r_cVi hB [.int l1] [.int l2] cf3 (own := "PulseRemote$FrameList") rfl cmX3_sizeOf imX3_sizeOf (Or.inl k_535) (by decide) rfl rfl rfl (Nat.le_of_ble_eq_true rfl) (by decide +kernel : decode cX3_durationAt 7 = .ok (.invokevirtual 48, 3)) (fun z hz => m_X3_sizeOf _ _ _ _ hz) rfl hf (fun z7 hf => ?_)
    refine r_icmp_ge hB (tgt := 30) (by decide +kernel : decode cX3_durationAt 10 = .ok (.if_icmp .ge 20, 3)) (by decide) hf (fun _ hf => ?_) (fun _ hf => ?_)
    · refine r_iconst hB (v := 0) (by decide +kernel : decode cX3_durationAt 30 = .ok (.iconst 0, 1)) (by decide +kernel) ?_
      obtain rfl := Option.some.inj hf
      obtain ⟨rfl, rfl⟩ := hk
      exact r_iret hB (by decide +kernel : decode cX3_durationAt 31 = .ok (.ireturn, 1))
    · refine r_aload_n hB 0 rfl (by decide +kernel : decode cX3_durationAt 13 = .ok (.aload_n 0, 1)) rfl ?_
      refine r_gR hB cf3 3 (by decide) (own := "PulseRemote$FrameList") rfl (Or.inl k_211) (by decide +kernel) (by decide +kernel : decode cX3_durationAt 14 = .ok (.getfield 21, 3)) hf (fun x14 hf => ?_)
      refine r_aload_n hB 0 rfl (by decide +kernel : decode cX3_durationAt 17 = .ok (.aload_n 0, 1)) rfl ?_
      refine r_iload_n hB 1 rfl (by decide +kernel : decode cX3_durationAt 18 = .ok (.iload_n 1, 1)) rfl ?_
      refine r_cVi hB [.int l1] [.ref (b + x14)] cf3 (own := "PulseRemote$FrameList") rfl cmX3_startOf imX3_startOf (Or.inl k_536) (by decide) rfl rfl rfl (Nat.le_of_ble_eq_true rfl) (by decide +kernel : decode cX3_durationAt 19 = .ok (.invokevirtual 51, 3)) (fun z hz => m_X3_startOf _ _ _ _ hz) rfl hf (fun z19 hf => ?_)
      refine r_iload_n hB 2 rfl (by decide +kernel : decode cX3_durationAt 22 = .ok (.iload_n 2, 1)) rfl ?_
      refine r_iadd hB (by decide +kernel : decode cX3_durationAt 23 = .ok (.iadd, 1)) ?_
      refine r_cVi hB [.int (z19.1 + l2)] [] cf10 (own := "PulseRemote$FrameList") rfl cmX10_at imX10_at (Or.inl k_502) (by decide) rfl rfl rfl (Nat.le_of_ble_eq_true rfl) (by decide +kernel : decode cX3_durationAt 24 = .ok (.invokevirtual 40, 3)) (fun z hz => m_X10_at _ _ _ _ hz) rfl hf (fun z24 hf => ?_)
      refine r_goto hB (tgt := 31) (by decide +kernel : decode cX3_durationAt 27 = .ok (.goto 4, 3)) (by decide) ?_
      obtain rfl := Option.some.inj hf
      obtain ⟨rfl, rfl⟩ := hk
      exact r_iret hB (by decide +kernel : decode cX3_durationAt 31 = .ok (.ireturn, 1))
theorem m_X3_durationAt (l : Launch) (D : va_G) (cy : Nat → ClassId) (b : Nat) {l0 : Nat} {l1 : Int32} {l2 : Int32} {μ : MS} {z : Int32 × MS} (hf : f_X3_durationAt l0 l1 l2 μ = some z) : Met l yX3_durationAt (.code yX3_durationAt cX3_durationAt 3 (some .int) :: GW) rmX3_durationAt (Pw D cy b [.ref (b + l0), .int l1, .int l2] μ) (Qw D cy b (some (.int z.1)) (z.2)) rmX3_durationAt.cells rmX3_durationAt.slots (fun q => b ≤ q) :=
  met_of (by decide) (Nat.le_of_ble_eq_true rfl) (fun X hB _ => (t_X3_durationAt_0 hB hf ⟨rfl, rfl⟩))
-- PulseRemote$Clusters.insert(I)V
set_option maxHeartbeats 4000000 in
set_option maxRecDepth 100000 in
theorem t_X0_insert_52 {X : BX} {D : va_G} {cy : Nat → ClassId} {b : Nat} {r : Option Value} {μ' : MS} (hB : BB X D cy b yX0_insert cX0_insert 3 none rmX0_insert) {l0 : Nat} {l1 : Int32} {l2 : Int32} {μ : MS} {z : MS} (hf : f_X0_insert_52 l0 l1 l2 μ = some z) (hk : (fun z : MS => r = none ∧ μ' = z) z) : WW X D cy b r μ' 3 0 0 52 [(0, .ref (b + l0)), (1, .int l1), (2, .int l2)] [] μ := by
  unfold f_X0_insert_52 at hf
  refine r_aload_n hB 0 rfl (by decide +kernel : decode cX0_insert 52 = .ok (.aload_n 0, 1)) rfl ?_
  refine r_gR hB cf0 0 (by decide) (own := "PulseRemote$Clusters") rfl (Or.inl k_299) (by decide +kernel) (by decide +kernel : decode cX0_insert 53 = .ok (.getfield 9, 3)) hf (fun x53 hf => ?_)
  refine r_iload_n hB 2 rfl (by decide +kernel : decode cX0_insert 56 = .ok (.iload_n 2, 1)) rfl ?_
  refine r_iload_n hB 1 rfl (by decide +kernel : decode cX0_insert 57 = .ok (.iload_n 1, 1)) rfl ?_
  refine r_iast hB (by decide +kernel : decode cX0_insert 58 = .ok (.iastore, 1)) hf (fun m58 hf => ?_)
  refine r_aload_n hB 0 rfl (by decide +kernel : decode cX0_insert 59 = .ok (.aload_n 0, 1)) rfl ?_
  refine r_dup hB (by decide +kernel : decode cX0_insert 60 = .ok (.dup, 1)) rfl ?_
  refine r_gI hB cf0 1 (by decide) (own := "PulseRemote$Clusters") rfl (Or.inl k_300) (by decide +kernel) (by decide +kernel : decode cX0_insert 61 = .ok (.getfield 15, 3)) hf (fun x61 hf => ?_)
  refine r_iconst hB (v := 1) (by decide +kernel : decode cX0_insert 64 = .ok (.iconst 1, 1)) (by decide +kernel) ?_
  refine r_iadd hB (by decide +kernel : decode cX0_insert 65 = .ok (.iadd, 1)) ?_
  refine r_pI hB cf0 1 (by decide) (own := "PulseRemote$Clusters") rfl (Or.inl k_300) (Or.inl rfl) rfl (by decide +kernel : decode cX0_insert 66 = .ok (.putfield 15, 3)) hf (fun m66 hf => ?_)
  obtain rfl := Option.some.inj hf
  obtain ⟨rfl, rfl⟩ := hk
  exact r_vret hB (by decide +kernel : decode cX0_insert 69 = .ok (.return_, 1))
set_option maxHeartbeats 4000000 in
set_option maxRecDepth 100000 in
theorem t_X0_insert_16_b {X : BX} {D : va_G} {cy : Nat → ClassId} {b : Nat} {r : Option Value} {μ' : MS} (hB : BB X D cy b yX0_insert cX0_insert 3 none rmX0_insert) {l0 : Nat} {l1 : Int32} {l2 : Int32} {μ : MS} {z : ((Nat × Int32 × Int32 × MS) ⊕ MS)} (hf : f_X0_insert_16_b l0 l1 l2 μ = some z) (hk : (Sum.elim (fun s : Nat × Int32 × Int32 × MS => WW X D cy b r μ' 3 0 0 16 [(0, .ref (b + s.1)), (1, .int s.2.1), (2, .int s.2.2.1)] [] s.2.2.2) (fun z : MS => r = none ∧ μ' = z)) z) : WW X D cy b r μ' 3 0 0 16 [(0, .ref (b + l0)), (1, .int l1), (2, .int l2)] [] μ := by
  unfold f_X0_insert_16_b at hf
  refine r_iload_n hB 2 rfl (by decide +kernel : decode cX0_insert 16 = .ok (.iload_n 2, 1)) rfl ?_
  refine r_if_le hB (tgt := 52) (by decide +kernel : decode cX0_insert 17 = .ok (.ifCond .le 35, 3)) (by decide) hf (fun _ hf => ?_) (fun _ hf => ?_)
  · obtain ⟨_, hx0, rfl⟩ := xr_inv hf
    exact WW.sub [0, 1, 2] rfl (t_X0_insert_52 hB hx0 hk)
  · refine r_aload_n hB 0 rfl (by decide +kernel : decode cX0_insert 20 = .ok (.aload_n 0, 1)) rfl ?_
    refine r_gR hB cf0 0 (by decide) (own := "PulseRemote$Clusters") rfl (Or.inl k_299) (by decide +kernel) (by decide +kernel : decode cX0_insert 21 = .ok (.getfield 9, 3)) hf (fun x21 hf => ?_)
    refine r_iload_n hB 2 rfl (by decide +kernel : decode cX0_insert 24 = .ok (.iload_n 2, 1)) rfl ?_
    refine r_iconst hB (v := 1) (by decide +kernel : decode cX0_insert 25 = .ok (.iconst 1, 1)) (by decide +kernel) ?_
    refine r_isub hB (by decide +kernel : decode cX0_insert 26 = .ok (.isub, 1)) ?_
    refine r_iald hB (by decide +kernel : decode cX0_insert 27 = .ok (.iaload, 1)) hf (fun x27 hf => ?_)
    refine r_iload_n hB 1 rfl (by decide +kernel : decode cX0_insert 28 = .ok (.iload_n 1, 1)) rfl ?_
    refine r_icmp_le hB (tgt := 52) (by decide +kernel : decode cX0_insert 29 = .ok (.if_icmp .le 23, 3)) (by decide) hf (fun _ hf => ?_) (fun _ hf => ?_)
    · obtain ⟨_, hx0, rfl⟩ := xr_inv hf
      exact WW.sub [0, 1, 2] rfl (t_X0_insert_52 hB hx0 hk)
    · refine r_aload_n hB 0 rfl (by decide +kernel : decode cX0_insert 32 = .ok (.aload_n 0, 1)) rfl ?_
      refine r_gR hB cf0 0 (by decide) (own := "PulseRemote$Clusters") rfl (Or.inl k_299) (by decide +kernel) (by decide +kernel : decode cX0_insert 33 = .ok (.getfield 9, 3)) hf (fun x33 hf => ?_)
      refine r_iload_n hB 2 rfl (by decide +kernel : decode cX0_insert 36 = .ok (.iload_n 2, 1)) rfl ?_
      refine r_aload_n hB 0 rfl (by decide +kernel : decode cX0_insert 37 = .ok (.aload_n 0, 1)) rfl ?_
      refine r_gR hB cf0 0 (by decide) (own := "PulseRemote$Clusters") rfl (Or.inl k_299) (by decide +kernel) (by decide +kernel : decode cX0_insert 38 = .ok (.getfield 9, 3)) hf (fun x38 hf => ?_)
      refine r_iload_n hB 2 rfl (by decide +kernel : decode cX0_insert 41 = .ok (.iload_n 2, 1)) rfl ?_
      refine r_iconst hB (v := 1) (by decide +kernel : decode cX0_insert 42 = .ok (.iconst 1, 1)) (by decide +kernel) ?_
      refine r_isub hB (by decide +kernel : decode cX0_insert 43 = .ok (.isub, 1)) ?_
      refine r_iald hB (by decide +kernel : decode cX0_insert 44 = .ok (.iaload, 1)) hf (fun x44 hf => ?_)
      refine r_iast hB (by decide +kernel : decode cX0_insert 45 = .ok (.iastore, 1)) hf (fun m45 hf => ?_)
      refine r_iincB hB 2 rfl (by decide +kernel : decode cX0_insert 46 = .ok (.iinc 2 (-1), 3)) (w := (-1)) (by decide +kernel) (by decide) hf (fun v46 hf => ?_)
      refine ww_lv (lv' := [(2, .int v46), (0, .ref (b + l0)), (1, .int l1)]) rfl ?_
      refine r_goto hB (tgt := 16) (by decide +kernel : decode cX0_insert 49 = .ok (.goto (-33), 3)) (by decide) ?_
      obtain rfl := Option.some.inj hf
      exact WW.sub [1, 2, 0] rfl hk
set_option maxHeartbeats 4000000 in
set_option maxRecDepth 100000 in
theorem t_X0_insert_16 {X : BX} {D : va_G} {cy : Nat → ClassId} {b : Nat} {r : Option Value} {μ' : MS} (hB : BB X D cy b yX0_insert cX0_insert 3 none rmX0_insert) {l0 : Nat} {l1 : Int32} {l2 : Int32} {μ : MS} {z : MS} (hf : f_X0_insert_16 l0 l1 l2 μ = some z) (hk : (fun z : MS => r = none ∧ μ' = z) z) : WW X D cy b r μ' 3 0 0 16 [(0, .ref (b + l0)), (1, .int l1), (2, .int l2)] [] μ :=
  lp_ind (P := fun s : Nat × Int32 × Int32 × MS => WW X D cy b r μ' 3 0 0 16 [(0, .ref (b + s.1)), (1, .int s.2.1), (2, .int s.2.2.1)] [] s.2.2.2) (Q := (fun z : MS => r = none ∧ μ' = z)) (fun s z hz hk => t_X0_insert_16_b hB hz hk) (l0, l1, l2, μ) z hf hk
set_option maxHeartbeats 4000000 in
set_option maxRecDepth 100000 in
theorem t_X0_insert_0 {X : BX} {D : va_G} {cy : Nat → ClassId} {b : Nat} {r : Option Value} {μ' : MS} (hB : BB X D cy b yX0_insert cX0_insert 3 none rmX0_insert) {l0 : Nat} {l1 : Int32} {μ : MS} {z : MS} (hf : f_X0_insert l0 l1 μ = some z) (hk : (fun z : MS => r = none ∧ μ' = z) z) : WW X D cy b r μ' 3 0 0 0 [(0, .ref (b + l0)), (1, .int l1)] [] μ := by
  unfold f_X0_insert at hf
  refine r_aload_n hB 0 rfl (by decide +kernel : decode cX0_insert 0 = .ok (.aload_n 0, 1)) rfl ?_
  refine r_gI hB cf0 1 (by decide) (own := "PulseRemote$Clusters") rfl (Or.inl k_300) (by decide +kernel) (by decide +kernel : decode cX0_insert 1 = .ok (.getfield 15, 3)) hf (fun x1 hf => ?_)
  refine r_sipush hB (v := 200) (by decide +kernel : decode cX0_insert 4 = .ok (.sipush 200, 3)) (by decide +kernel) ?_
  refine r_icmp_lt hB (tgt := 11) (by decide +kernel : decode cX0_insert 7 = .ok (.if_icmp .lt 4, 3)) (by decide) hf (fun _ hf => ?_) (fun _ hf => ?_)
  · refine r_aload_n hB 0 rfl (by decide +kernel : decode cX0_insert 11 = .ok (.aload_n 0, 1)) rfl ?_
    refine r_gI hB cf0 1 (by decide) (own := "PulseRemote$Clusters") rfl (Or.inl k_300) (by decide +kernel) (by decide +kernel : decode cX0_insert 12 = .ok (.getfield 15, 3)) hf (fun x12 hf => ?_)
    refine r_istore_n hB (by decide +kernel : decode cX0_insert 15 = .ok (.istore_n 2, 1)) rfl (by decide) rfl ?_
    refine ww_lv (lv' := [(2, .int x12), (0, .ref (b + l0)), (1, .int l1)]) rfl ?_
    exact WW.sub [1, 2, 0] rfl (t_X0_insert_16 hB hf hk)
  · obtain rfl := Option.some.inj hf
    obtain ⟨rfl, rfl⟩ := hk
    exact r_vret hB (by decide +kernel : decode cX0_insert 10 = .ok (.return_, 1))
theorem m_X0_insert (l : Launch) (D : va_G) (cy : Nat → ClassId) (b : Nat) {l0 : Nat} {l1 : Int32} {μ : MS} {z : MS} (hf : f_X0_insert l0 l1 μ = some z) : Met l yX0_insert (.code yX0_insert cX0_insert 3 none :: GW) rmX0_insert (Pw D cy b [.ref (b + l0), .int l1] μ) (Qw D cy b (none) (z)) rmX0_insert.cells rmX0_insert.slots (fun q => b ≤ q) :=
  met_of (by decide) (Nat.le_of_ble_eq_true rfl) (fun X hB _ => (t_X0_insert_0 hB hf ⟨rfl, rfl⟩))
-- PulseRemote$Learner.insertAll(LPulseRemote$FrameList;I)V
set_option maxHeartbeats 4000000 in
set_option maxRecDepth 100000 in
theorem t_X4_insertAll_42 {X : BX} {D : va_G} {cy : Nat → ClassId} {b : Nat} {r : Option Value} {μ' : MS} (hB : BB X D cy b yX4_insertAll cX4_insertAll 4 none rmX4_insertAll)  {μ : MS} {z : MS} (hf : f_X4_insertAll_42  μ = some z) (hk : (fun z : MS => r = none ∧ μ' = z) z) : WW X D cy b r μ' 4 0 0 42 [] [] μ := by
  unfold f_X4_insertAll_42 at hf
  obtain rfl := Option.some.inj hf
  obtain ⟨rfl, rfl⟩ := hk
  exact r_vret hB (by decide +kernel : decode cX4_insertAll 42 = .ok (.return_, 1))
set_option maxHeartbeats 4000000 in
set_option maxRecDepth 100000 in
theorem t_X4_insertAll_27 {X : BX} {D : va_G} {cy : Nat → ClassId} {b : Nat} {r : Option Value} {μ' : MS} (hB : BB X D cy b yX4_insertAll cX4_insertAll 4 none rmX4_insertAll) {l0 : Nat} {l1 : Nat} {l2 : Int32} {l3 : Int32} {s0 : Nat} {μ : MS} {z : ((Nat × Nat × Int32 × Int32 × MS) ⊕ MS)} (hf : f_X4_insertAll_27 l0 l1 l2 l3 s0 μ = some z) (hk : (Sum.elim (fun s : Nat × Nat × Int32 × Int32 × MS => WW X D cy b r μ' 4 0 0 2 [(0, .ref (b + s.1)), (1, .ref (b + s.2.1)), (2, .int s.2.2.1), (3, .int s.2.2.2.1)] [] s.2.2.2.2) (fun z : MS => r = none ∧ μ' = z)) z) : WW X D cy b r μ' 4 0 0 27 [(0, .ref (b + l0)), (1, .ref (b + l1)), (2, .int l2), (3, .int l3)] [.ref (b + s0)] μ := by
  unfold f_X4_insertAll_27 at hf
  refine r_aload_n hB 1 rfl (by decide +kernel : decode cX4_insertAll 27 = .ok (.aload_n 1, 1)) rfl ?_
  refine r_iload_n hB 2 rfl (by decide +kernel : decode cX4_insertAll 28 = .ok (.iload_n 2, 1)) rfl ?_
  refine r_iload_n hB 3 rfl (by decide +kernel : decode cX4_insertAll 29 = .ok (.iload_n 3, 1)) rfl ?_
  refine r_cVi hB [.int l2, .int l3] [.ref (b + s0)] cf3 (own := "PulseRemote$Learner") rfl cmX3_durationAt imX3_durationAt (Or.inl k_801) (by decide) rfl rfl rfl (Nat.le_of_ble_eq_true rfl) (by decide +kernel : decode cX4_insertAll 30 = .ok (.invokevirtual 37, 3)) (fun z hz => m_X3_durationAt _ _ _ _ hz) rfl hf (fun z30 hf => ?_)
  refine r_cVv hB [.int z30.1] [] cf0 (own := "PulseRemote$Learner") rfl cmX0_insert imX0_insert (Or.inl k_806) (by decide) rfl rfl rfl (Nat.le_of_ble_eq_true rfl) (by decide +kernel : decode cX4_insertAll 33 = .ok (.invokevirtual 54, 3)) (fun z hz => m_X0_insert _ _ _ _ hz) rfl hf (fun z33 hf => ?_)
  refine r_iincB hB 3 rfl (by decide +kernel : decode cX4_insertAll 36 = .ok (.iinc 3 1, 3)) (w := 1) (by decide +kernel) (by decide) hf (fun v36 hf => ?_)
  refine ww_lv (lv' := [(3, .int v36), (0, .ref (b + l0)), (1, .ref (b + l1)), (2, .int l2)]) rfl ?_
  refine r_goto hB (tgt := 2) (by decide +kernel : decode cX4_insertAll 39 = .ok (.goto (-37), 3)) (by decide) ?_
  obtain rfl := Option.some.inj hf
  exact WW.sub [1, 2, 3, 0] rfl hk
set_option maxHeartbeats 4000000 in
set_option maxRecDepth 100000 in
theorem t_X4_insertAll_2_b {X : BX} {D : va_G} {cy : Nat → ClassId} {b : Nat} {r : Option Value} {μ' : MS} (hB : BB X D cy b yX4_insertAll cX4_insertAll 4 none rmX4_insertAll) {l0 : Nat} {l1 : Nat} {l2 : Int32} {l3 : Int32} {μ : MS} {z : ((Nat × Nat × Int32 × Int32 × MS) ⊕ MS)} (hf : f_X4_insertAll_2_b l0 l1 l2 l3 μ = some z) (hk : (Sum.elim (fun s : Nat × Nat × Int32 × Int32 × MS => WW X D cy b r μ' 4 0 0 2 [(0, .ref (b + s.1)), (1, .ref (b + s.2.1)), (2, .int s.2.2.1), (3, .int s.2.2.2.1)] [] s.2.2.2.2) (fun z : MS => r = none ∧ μ' = z)) z) : WW X D cy b r μ' 4 0 0 2 [(0, .ref (b + l0)), (1, .ref (b + l1)), (2, .int l2), (3, .int l3)] [] μ := by
  unfold f_X4_insertAll_2_b at hf
  refine r_iload_n hB 3 rfl (by decide +kernel : decode cX4_insertAll 2 = .ok (.iload_n 3, 1)) rfl ?_
  refine r_aload_n hB 0 rfl (by decide +kernel : decode cX4_insertAll 3 = .ok (.aload_n 0, 1)) rfl ?_
  refine r_gI hB cf4 2 (by decide) (own := "PulseRemote$Learner") rfl (Or.inl k_320) (by decide +kernel) (by decide +kernel : decode cX4_insertAll 4 = .ok (.getfield 27, 3)) hf (fun x4 hf => ?_)
  refine r_icmp_ge hB (tgt := 42) (by decide +kernel : decode cX4_insertAll 7 = .ok (.if_icmp .ge 35, 3)) (by decide) hf (fun _ hf => ?_) (fun _ hf => ?_)
  · obtain ⟨_, hx0, rfl⟩ := xr_inv hf
    exact WW.sub [] rfl (t_X4_insertAll_42 hB hx0 hk)
  · refine r_iload_n hB 3 rfl (by decide +kernel : decode cX4_insertAll 10 = .ok (.iload_n 3, 1)) rfl ?_
    refine r_iconst hB (v := 2) (by decide +kernel : decode cX4_insertAll 11 = .ok (.iconst 2, 1)) (by decide +kernel) ?_
    refine r_irem hB (by decide +kernel : decode cX4_insertAll 12 = .ok (.irem, 1)) hf (fun v12 hf => ?_)
    refine r_if_ne hB (tgt := 23) (by decide +kernel : decode cX4_insertAll 13 = .ok (.ifCond .ne 10, 3)) (by decide) hf (fun _ hf => ?_) (fun _ hf => ?_)
    · refine r_aload_n hB 0 rfl (by decide +kernel : decode cX4_insertAll 16 = .ok (.aload_n 0, 1)) rfl ?_
      refine r_gR hB cf4 0 (by decide) (own := "PulseRemote$Learner") rfl (Or.inl k_318) (by decide +kernel) (by decide +kernel : decode cX4_insertAll 17 = .ok (.getfield 12, 3)) hf (fun x17 hf => ?_)
      refine r_goto hB (tgt := 27) (by decide +kernel : decode cX4_insertAll 20 = .ok (.goto 7, 3)) (by decide) ?_
      exact WW.sub [0, 1, 2, 3] rfl (t_X4_insertAll_27 hB hf hk)
    · refine r_aload_n hB 0 rfl (by decide +kernel : decode cX4_insertAll 23 = .ok (.aload_n 0, 1)) rfl ?_
      refine r_gR hB cf4 1 (by decide) (own := "PulseRemote$Learner") rfl (Or.inl k_319) (by decide +kernel) (by decide +kernel : decode cX4_insertAll 24 = .ok (.getfield 18, 3)) hf (fun x24 hf => ?_)
      exact WW.sub [0, 1, 2, 3] rfl (t_X4_insertAll_27 hB hf hk)
set_option maxHeartbeats 4000000 in
set_option maxRecDepth 100000 in
theorem t_X4_insertAll_2 {X : BX} {D : va_G} {cy : Nat → ClassId} {b : Nat} {r : Option Value} {μ' : MS} (hB : BB X D cy b yX4_insertAll cX4_insertAll 4 none rmX4_insertAll) {l0 : Nat} {l1 : Nat} {l2 : Int32} {l3 : Int32} {μ : MS} {z : MS} (hf : f_X4_insertAll_2 l0 l1 l2 l3 μ = some z) (hk : (fun z : MS => r = none ∧ μ' = z) z) : WW X D cy b r μ' 4 0 0 2 [(0, .ref (b + l0)), (1, .ref (b + l1)), (2, .int l2), (3, .int l3)] [] μ :=
  lp_ind (P := fun s : Nat × Nat × Int32 × Int32 × MS => WW X D cy b r μ' 4 0 0 2 [(0, .ref (b + s.1)), (1, .ref (b + s.2.1)), (2, .int s.2.2.1), (3, .int s.2.2.2.1)] [] s.2.2.2.2) (Q := (fun z : MS => r = none ∧ μ' = z)) (fun s z hz hk => t_X4_insertAll_2_b hB hz hk) (l0, l1, l2, l3, μ) z hf hk
set_option maxHeartbeats 4000000 in
set_option maxRecDepth 100000 in
theorem t_X4_insertAll_0 {X : BX} {D : va_G} {cy : Nat → ClassId} {b : Nat} {r : Option Value} {μ' : MS} (hB : BB X D cy b yX4_insertAll cX4_insertAll 4 none rmX4_insertAll) {l0 : Nat} {l1 : Nat} {l2 : Int32} {μ : MS} {z : MS} (hf : f_X4_insertAll l0 l1 l2 μ = some z) (hk : (fun z : MS => r = none ∧ μ' = z) z) : WW X D cy b r μ' 4 0 0 0 [(0, .ref (b + l0)), (1, .ref (b + l1)), (2, .int l2)] [] μ := by
  unfold f_X4_insertAll at hf
  refine r_iconst hB (v := 2) (by decide +kernel : decode cX4_insertAll 0 = .ok (.iconst 2, 1)) (by decide +kernel) ?_
  refine r_istore_n hB (by decide +kernel : decode cX4_insertAll 1 = .ok (.istore_n 3, 1)) rfl (by decide) rfl ?_
  refine ww_lv (lv' := [(3, .int 2), (0, .ref (b + l0)), (1, .ref (b + l1)), (2, .int l2)]) rfl ?_
  exact WW.sub [1, 2, 3, 0] rfl (t_X4_insertAll_2 hB hf hk)
theorem m_X4_insertAll (l : Launch) (D : va_G) (cy : Nat → ClassId) (b : Nat) {l0 : Nat} {l1 : Nat} {l2 : Int32} {μ : MS} {z : MS} (hf : f_X4_insertAll l0 l1 l2 μ = some z) : Met l yX4_insertAll (.code yX4_insertAll cX4_insertAll 4 none :: GW) rmX4_insertAll (Pw D cy b [.ref (b + l0), .ref (b + l1), .int l2] μ) (Qw D cy b (none) (z)) rmX4_insertAll.cells rmX4_insertAll.slots (fun q => b ≤ q) :=
  met_of (by decide) (Nat.le_of_ble_eq_true rfl) (fun X hB _ => (t_X4_insertAll_0 hB hf ⟨rfl, rfl⟩))
-- PulseRemote$Clusters.mean(II)I
set_option maxHeartbeats 4000000 in
set_option maxRecDepth 100000 in
theorem t_X0_mean_39 {X : BX} {D : va_G} {cy : Nat → ClassId} {b : Nat} {r : Option Value} {μ' : MS} (hB : BB X D cy b yX0_mean cX0_mean 5 (some .int) rmX0_mean) {l1 : Int32} {l2 : Int32} {l3 : Int32} {μ : MS} {z : (Int32 × MS)} (hf : f_X0_mean_39 l1 l2 l3 μ = some z) (hk : (fun z : Int32 × MS => r = some (.int z.1) ∧ μ' = z.2) z) : WW X D cy b r μ' 5 0 0 39 [(1, .int l1), (2, .int l2), (3, .int l3)] [] μ := by
  unfold f_X0_mean_39 at hf
  refine r_iload_n hB 1 rfl (by decide +kernel : decode cX0_mean 39 = .ok (.iload_n 2, 1)) rfl ?_
  refine r_iload_n hB 0 rfl (by decide +kernel : decode cX0_mean 40 = .ok (.iload_n 1, 1)) rfl ?_
  refine r_icmp_le hB (tgt := 52) (by decide +kernel : decode cX0_mean 41 = .ok (.if_icmp .le 11, 3)) (by decide) hf (fun _ hf => ?_) (fun _ hf => ?_)
  · refine r_iconst hB (v := 0) (by decide +kernel : decode cX0_mean 52 = .ok (.iconst 0, 1)) (by decide +kernel) ?_
    obtain rfl := Option.some.inj hf
    obtain ⟨rfl, rfl⟩ := hk
    exact r_iret hB (by decide +kernel : decode cX0_mean 53 = .ok (.ireturn, 1))
  · refine r_iload_n hB 2 rfl (by decide +kernel : decode cX0_mean 44 = .ok (.iload_n 3, 1)) rfl ?_
    refine r_iload_n hB 1 rfl (by decide +kernel : decode cX0_mean 45 = .ok (.iload_n 2, 1)) rfl ?_
    refine r_iload_n hB 0 rfl (by decide +kernel : decode cX0_mean 46 = .ok (.iload_n 1, 1)) rfl ?_
    refine r_isub hB (by decide +kernel : decode cX0_mean 47 = .ok (.isub, 1)) ?_
    refine r_idiv hB (by decide +kernel : decode cX0_mean 48 = .ok (.idiv, 1)) hf (fun v48 hf => ?_)
    refine r_goto hB (tgt := 53) (by decide +kernel : decode cX0_mean 49 = .ok (.goto 4, 3)) (by decide) ?_
    obtain rfl := Option.some.inj hf
    obtain ⟨rfl, rfl⟩ := hk
    exact r_iret hB (by decide +kernel : decode cX0_mean 53 = .ok (.ireturn, 1))
set_option maxHeartbeats 4000000 in
set_option maxRecDepth 100000 in
theorem t_X0_mean_9_b {X : BX} {D : va_G} {cy : Nat → ClassId} {b : Nat} {r : Option Value} {μ' : MS} (hB : BB X D cy b yX0_mean cX0_mean 5 (some .int) rmX0_mean) {l0 : Nat} {l1 : Int32} {l2 : Int32} {l3 : Int32} {l4 : Int32} {μ : MS} {z : ((Nat × Int32 × Int32 × Int32 × Int32 × MS) ⊕ (Int32 × MS))} (hf : f_X0_mean_9_b l0 l1 l2 l3 l4 μ = some z) (hk : (Sum.elim (fun s : Nat × Int32 × Int32 × Int32 × Int32 × MS => WW X D cy b r μ' 5 0 0 9 [(0, .ref (b + s.1)), (1, .int s.2.1), (2, .int s.2.2.1), (3, .int s.2.2.2.1), (4, .int s.2.2.2.2.1)] [] s.2.2.2.2.2) (fun z : Int32 × MS => r = some (.int z.1) ∧ μ' = z.2)) z) : WW X D cy b r μ' 5 0 0 9 [(0, .ref (b + l0)), (1, .int l1), (2, .int l2), (3, .int l3), (4, .int l4)] [] μ := by
  unfold f_X0_mean_9_b at hf
  refine r_iload hB 4 rfl (by decide +kernel : decode cX0_mean 9 = .ok (.iload 4, 2)) ?_
  refine r_iload_n hB 2 rfl (by decide +kernel : decode cX0_mean 11 = .ok (.iload_n 2, 1)) rfl ?_
  refine r_icmp_ge hB (tgt := 39) (by decide +kernel : decode cX0_mean 12 = .ok (.if_icmp .ge 27, 3)) (by decide) hf (fun _ hf => ?_) (fun _ hf => ?_)
  · obtain ⟨_, hx0, rfl⟩ := xr_inv hf
    exact WW.sub [1, 2, 3] rfl (t_X0_mean_39 hB hx0 hk)
  · refine r_iload hB 4 rfl (by decide +kernel : decode cX0_mean 15 = .ok (.iload 4, 2)) ?_
    refine r_sipush hB (v := 200) (by decide +kernel : decode cX0_mean 17 = .ok (.sipush 200, 3)) (by decide +kernel) ?_
    refine r_icmp_ge hB (tgt := 39) (by decide +kernel : decode cX0_mean 20 = .ok (.if_icmp .ge 19, 3)) (by decide) hf (fun _ hf => ?_) (fun _ hf => ?_)
    · obtain ⟨_, hx0, rfl⟩ := xr_inv hf
      exact WW.sub [1, 2, 3] rfl (t_X0_mean_39 hB hx0 hk)
    · refine r_iload_n hB 3 rfl (by decide +kernel : decode cX0_mean 23 = .ok (.iload_n 3, 1)) rfl ?_
      refine r_aload_n hB 0 rfl (by decide +kernel : decode cX0_mean 24 = .ok (.aload_n 0, 1)) rfl ?_
      refine r_gR hB cf0 0 (by decide) (own := "PulseRemote$Clusters") rfl (Or.inl k_299) (by decide +kernel) (by decide +kernel : decode cX0_mean 25 = .ok (.getfield 9, 3)) hf (fun x25 hf => ?_)
      refine r_iload hB 4 rfl (by decide +kernel : decode cX0_mean 28 = .ok (.iload 4, 2)) ?_
      refine r_iald hB (by decide +kernel : decode cX0_mean 30 = .ok (.iaload, 1)) hf (fun x30 hf => ?_)
      refine r_iadd hB (by decide +kernel : decode cX0_mean 31 = .ok (.iadd, 1)) ?_
      refine r_name hf (fun v32 hf => ?_)
      refine r_istore_n hB (by decide +kernel : decode cX0_mean 32 = .ok (.istore_n 3, 1)) rfl (by decide) rfl ?_
      refine ww_lv (lv' := [(3, .int v32), (0, .ref (b + l0)), (1, .int l1), (2, .int l2), (4, .int l4)]) rfl ?_
      refine r_iincB hB 4 rfl (by decide +kernel : decode cX0_mean 33 = .ok (.iinc 4 1, 3)) (w := 1) (by decide +kernel) (by decide) hf (fun v33 hf => ?_)
      refine ww_lv (lv' := [(4, .int v33), (3, .int v32), (0, .ref (b + l0)), (1, .int l1), (2, .int l2)]) rfl ?_
      refine r_goto hB (tgt := 9) (by decide +kernel : decode cX0_mean 36 = .ok (.goto (-27), 3)) (by decide) ?_
      obtain rfl := Option.some.inj hf
      exact WW.sub [2, 3, 4, 1, 0] rfl hk
set_option maxHeartbeats 4000000 in
set_option maxRecDepth 100000 in
theorem t_X0_mean_9 {X : BX} {D : va_G} {cy : Nat → ClassId} {b : Nat} {r : Option Value} {μ' : MS} (hB : BB X D cy b yX0_mean cX0_mean 5 (some .int) rmX0_mean) {l0 : Nat} {l1 : Int32} {l2 : Int32} {l3 : Int32} {l4 : Int32} {μ : MS} {z : (Int32 × MS)} (hf : f_X0_mean_9 l0 l1 l2 l3 l4 μ = some z) (hk : (fun z : Int32 × MS => r = some (.int z.1) ∧ μ' = z.2) z) : WW X D cy b r μ' 5 0 0 9 [(0, .ref (b + l0)), (1, .int l1), (2, .int l2), (3, .int l3), (4, .int l4)] [] μ :=
  lp_ind (P := fun s : Nat × Int32 × Int32 × Int32 × Int32 × MS => WW X D cy b r μ' 5 0 0 9 [(0, .ref (b + s.1)), (1, .int s.2.1), (2, .int s.2.2.1), (3, .int s.2.2.2.1), (4, .int s.2.2.2.2.1)] [] s.2.2.2.2.2) (Q := (fun z : Int32 × MS => r = some (.int z.1) ∧ μ' = z.2)) (fun s z hz hk => t_X0_mean_9_b hB hz hk) (l0, l1, l2, l3, l4, μ) z hf hk
set_option maxHeartbeats 4000000 in
set_option maxRecDepth 100000 in
theorem t_X0_mean_0 {X : BX} {D : va_G} {cy : Nat → ClassId} {b : Nat} {r : Option Value} {μ' : MS} (hB : BB X D cy b yX0_mean cX0_mean 5 (some .int) rmX0_mean) {l0 : Nat} {l1 : Int32} {l2 : Int32} {μ : MS} {z : (Int32 × MS)} (hf : f_X0_mean l0 l1 l2 μ = some z) (hk : (fun z : Int32 × MS => r = some (.int z.1) ∧ μ' = z.2) z) : WW X D cy b r μ' 5 0 0 0 [(0, .ref (b + l0)), (1, .int l1), (2, .int l2)] [] μ := by
  unfold f_X0_mean at hf
  refine r_iconst hB (v := 0) (by decide +kernel : decode cX0_mean 0 = .ok (.iconst 0, 1)) (by decide +kernel) ?_
  refine r_istore_n hB (by decide +kernel : decode cX0_mean 1 = .ok (.istore_n 3, 1)) rfl (by decide) rfl ?_
  refine ww_lv (lv' := [(3, .int 0), (0, .ref (b + l0)), (1, .int l1), (2, .int l2)]) rfl ?_
  refine r_iload_n hB 2 rfl (by decide +kernel : decode cX0_mean 2 = .ok (.iload_n 1, 1)) rfl ?_
  refine r_iconst hB (v := 0) (by decide +kernel : decode cX0_mean 3 = .ok (.iconst 0, 1)) (by decide +kernel) ?_
  refine r_max hB (own := "PulseRemote$Clusters") rfl k_818 k_475 k_34 k_476 (by decide +kernel : decode cX0_mean 4 = .ok (.invokestatic 36, 3)) (by decide) (Nat.le_of_ble_eq_true rfl) ?_
  refine r_name hf (fun v7 hf => ?_)
  refine r_istore hB (by decide +kernel : decode cX0_mean 7 = .ok (.istore 4, 2)) (by decide) rfl ?_
  refine ww_lv (lv' := [(4, .int v7), (3, .int 0), (0, .ref (b + l0)), (1, .int l1), (2, .int l2)]) rfl ?_
  exact WW.sub [2, 3, 4, 1, 0] rfl (t_X0_mean_9 hB hf hk)
theorem m_X0_mean (l : Launch) (D : va_G) (cy : Nat → ClassId) (b : Nat) {l0 : Nat} {l1 : Int32} {l2 : Int32} {μ : MS} {z : Int32 × MS} (hf : f_X0_mean l0 l1 l2 μ = some z) : Met l yX0_mean (.code yX0_mean cX0_mean 5 (some .int) :: GW) rmX0_mean (Pw D cy b [.ref (b + l0), .int l1, .int l2] μ) (Qw D cy b (some (.int z.1)) (z.2)) rmX0_mean.cells rmX0_mean.slots (fun q => b ≤ q) :=
  met_of (by decide) (Nat.le_of_ble_eq_true rfl) (fun X hB _ => (t_X0_mean_0 hB hf ⟨rfl, rfl⟩))
-- PulseRemote$Clusters.noteCluster(I)V
set_option maxHeartbeats 4000000 in
set_option maxRecDepth 100000 in
theorem t_X0_noteCluster_28 {X : BX} {D : va_G} {cy : Nat → ClassId} {b : Nat} {r : Option Value} {μ' : MS} (hB : BB X D cy b yX0_noteCluster cX0_noteCluster 2 none rmX0_noteCluster) {l0 : Nat} {μ : MS} {z : MS} (hf : f_X0_noteCluster_28 l0 μ = some z) (hk : (fun z : MS => r = none ∧ μ' = z) z) : WW X D cy b r μ' 2 0 0 28 [(0, .ref (b + l0))] [] μ := by
  unfold f_X0_noteCluster_28 at hf
  refine r_aload_n hB 0 rfl (by decide +kernel : decode cX0_noteCluster 28 = .ok (.aload_n 0, 1)) rfl ?_
  refine r_dup hB (by decide +kernel : decode cX0_noteCluster 29 = .ok (.dup, 1)) rfl ?_
  refine r_gI hB cf0 2 (by decide) (own := "PulseRemote$Clusters") rfl (Or.inl k_301) (by decide +kernel) (by decide +kernel : decode cX0_noteCluster 30 = .ok (.getfield 19, 3)) hf (fun x30 hf => ?_)
  refine r_iconst hB (v := 1) (by decide +kernel : decode cX0_noteCluster 33 = .ok (.iconst 1, 1)) (by decide +kernel) ?_
  refine r_iadd hB (by decide +kernel : decode cX0_noteCluster 34 = .ok (.iadd, 1)) ?_
  refine r_pI hB cf0 2 (by decide) (own := "PulseRemote$Clusters") rfl (Or.inl k_301) (Or.inl rfl) rfl (by decide +kernel : decode cX0_noteCluster 35 = .ok (.putfield 19, 3)) hf (fun m35 hf => ?_)
  obtain rfl := Option.some.inj hf
  obtain ⟨rfl, rfl⟩ := hk
  exact r_vret hB (by decide +kernel : decode cX0_noteCluster 38 = .ok (.return_, 1))
set_option maxHeartbeats 4000000 in
set_option maxRecDepth 100000 in
theorem t_X0_noteCluster_0 {X : BX} {D : va_G} {cy : Nat → ClassId} {b : Nat} {r : Option Value} {μ' : MS} (hB : BB X D cy b yX0_noteCluster cX0_noteCluster 2 none rmX0_noteCluster) {l0 : Nat} {l1 : Int32} {μ : MS} {z : MS} (hf : f_X0_noteCluster l0 l1 μ = some z) (hk : (fun z : MS => r = none ∧ μ' = z) z) : WW X D cy b r μ' 2 0 0 0 [(0, .ref (b + l0)), (1, .int l1)] [] μ := by
  unfold f_X0_noteCluster at hf
  refine r_aload_n hB 0 rfl (by decide +kernel : decode cX0_noteCluster 0 = .ok (.aload_n 0, 1)) rfl ?_
  refine r_gI hB cf0 2 (by decide) (own := "PulseRemote$Clusters") rfl (Or.inl k_301) (by decide +kernel) (by decide +kernel : decode cX0_noteCluster 1 = .ok (.getfield 19, 3)) hf (fun x1 hf => ?_)
  refine r_if_ne hB (tgt := 15) (by decide +kernel : decode cX0_noteCluster 4 = .ok (.ifCond .ne 11, 3)) (by decide) hf (fun _ hf => ?_) (fun _ hf => ?_)
  · refine r_aload_n hB 0 rfl (by decide +kernel : decode cX0_noteCluster 7 = .ok (.aload_n 0, 1)) rfl ?_
    refine r_iload_n hB 1 rfl (by decide +kernel : decode cX0_noteCluster 8 = .ok (.iload_n 1, 1)) rfl ?_
    refine r_pI hB cf0 3 (by decide) (own := "PulseRemote$Clusters") rfl (Or.inl k_303) (Or.inl rfl) rfl (by decide +kernel : decode cX0_noteCluster 9 = .ok (.putfield 30, 3)) hf (fun m9 hf => ?_)
    refine r_goto hB (tgt := 28) (by decide +kernel : decode cX0_noteCluster 12 = .ok (.goto 16, 3)) (by decide) ?_
    exact WW.sub [0] rfl (t_X0_noteCluster_28 hB hf hk)
  · refine r_aload_n hB 0 rfl (by decide +kernel : decode cX0_noteCluster 15 = .ok (.aload_n 0, 1)) rfl ?_
    refine r_gI hB cf0 2 (by decide) (own := "PulseRemote$Clusters") rfl (Or.inl k_301) (by decide +kernel) (by decide +kernel : decode cX0_noteCluster 16 = .ok (.getfield 19, 3)) hf (fun x16 hf => ?_)
    refine r_iconst hB (v := 1) (by decide +kernel : decode cX0_noteCluster 19 = .ok (.iconst 1, 1)) (by decide +kernel) ?_
    refine r_icmp_ne hB (tgt := 28) (by decide +kernel : decode cX0_noteCluster 20 = .ok (.if_icmp .ne 8, 3)) (by decide) hf (fun _ hf => ?_) (fun _ hf => ?_)
    · refine r_aload_n hB 0 rfl (by decide +kernel : decode cX0_noteCluster 23 = .ok (.aload_n 0, 1)) rfl ?_
      refine r_iload_n hB 1 rfl (by decide +kernel : decode cX0_noteCluster 24 = .ok (.iload_n 1, 1)) rfl ?_
      refine r_pI hB cf0 4 (by decide) (own := "PulseRemote$Clusters") rfl (Or.inl k_305) (Or.inl rfl) rfl (by decide +kernel : decode cX0_noteCluster 25 = .ok (.putfield 33, 3)) hf (fun m25 hf => ?_)
      exact WW.sub [0] rfl (t_X0_noteCluster_28 hB hf hk)
    · exact WW.sub [0] rfl (t_X0_noteCluster_28 hB hf hk)
theorem m_X0_noteCluster (l : Launch) (D : va_G) (cy : Nat → ClassId) (b : Nat) {l0 : Nat} {l1 : Int32} {μ : MS} {z : MS} (hf : f_X0_noteCluster l0 l1 μ = some z) : Met l yX0_noteCluster (.code yX0_noteCluster cX0_noteCluster 2 none :: GW) rmX0_noteCluster (Pw D cy b [.ref (b + l0), .int l1] μ) (Qw D cy b (none) (z)) rmX0_noteCluster.cells rmX0_noteCluster.slots (fun q => b ≤ q) :=
  met_of (by decide) (Nat.le_of_ble_eq_true rfl) (fun X hB _ => (t_X0_noteCluster_0 hB hf ⟨rfl, rfl⟩))
-- PulseRemote$Clusters.cut()V
set_option maxHeartbeats 4000000 in
set_option maxRecDepth 100000 in
theorem t_X0_cut_71 {X : BX} {D : va_G} {cy : Nat → ClassId} {b : Nat} {r : Option Value} {μ' : MS} (hB : BB X D cy b yX0_cut cX0_cut 3 none rmX0_cut)  {μ : MS} {z : MS} (hf : f_X0_cut_71  μ = some z) (hk : (fun z : MS => r = none ∧ μ' = z) z) : WW X D cy b r μ' 3 0 0 71 [] [] μ := by
  unfold f_X0_cut_71 at hf
  obtain rfl := Option.some.inj hf
  obtain ⟨rfl, rfl⟩ := hk
  exact r_vret hB (by decide +kernel : decode cX0_cut 71 = .ok (.return_, 1))
set_option maxHeartbeats 4000000 in
set_option maxRecDepth 100000 in
theorem t_X0_cut_65 {X : BX} {D : va_G} {cy : Nat → ClassId} {b : Nat} {r : Option Value} {μ' : MS} (hB : BB X D cy b yX0_cut cX0_cut 3 none rmX0_cut) {l0 : Nat} {l1 : Int32} {l2 : Int32} {μ : MS} {z : ((Nat × Int32 × Int32 × MS) ⊕ MS)} (hf : f_X0_cut_65 l0 l1 l2 μ = some z) (hk : (Sum.elim (fun s : Nat × Int32 × Int32 × MS => WW X D cy b r μ' 3 0 0 9 [(0, .ref (b + s.1)), (1, .int s.2.1), (2, .int s.2.2.1)] [] s.2.2.2) (fun z : MS => r = none ∧ μ' = z)) z) : WW X D cy b r μ' 3 0 0 65 [(0, .ref (b + l0)), (1, .int l1), (2, .int l2)] [] μ := by
  unfold f_X0_cut_65 at hf
  refine r_iincB hB 2 rfl (by decide +kernel : decode cX0_cut 65 = .ok (.iinc 2 1, 3)) (w := 1) (by decide +kernel) (by decide) hf (fun v65 hf => ?_)
  refine ww_lv (lv' := [(2, .int v65), (0, .ref (b + l0)), (1, .int l1)]) rfl ?_
  refine r_goto hB (tgt := 9) (by decide +kernel : decode cX0_cut 68 = .ok (.goto (-59), 3)) (by decide) ?_
  obtain rfl := Option.some.inj hf
  exact WW.sub [1, 2, 0] rfl hk
set_option maxHeartbeats 4000000 in
set_option maxRecDepth 100000 in
theorem t_X0_cut_53 {X : BX} {D : va_G} {cy : Nat → ClassId} {b : Nat} {r : Option Value} {μ' : MS} (hB : BB X D cy b yX0_cut cX0_cut 3 none rmX0_cut) {l0 : Nat} {l1 : Int32} {l2 : Int32} {μ : MS} {z : ((Nat × Int32 × Int32 × MS) ⊕ MS)} (hf : f_X0_cut_53 l0 l1 l2 μ = some z) (hk : (Sum.elim (fun s : Nat × Int32 × Int32 × MS => WW X D cy b r μ' 3 0 0 9 [(0, .ref (b + s.1)), (1, .int s.2.1), (2, .int s.2.2.1)] [] s.2.2.2) (fun z : MS => r = none ∧ μ' = z)) z) : WW X D cy b r μ' 3 0 0 53 [(0, .ref (b + l0)), (1, .int l1), (2, .int l2)] [] μ := by
  unfold f_X0_cut_53 at hf
  refine r_aload_n hB 0 rfl (by decide +kernel : decode cX0_cut 53 = .ok (.aload_n 0, 1)) rfl ?_
  refine r_aload_n hB 0 rfl (by decide +kernel : decode cX0_cut 54 = .ok (.aload_n 0, 1)) rfl ?_
  refine r_iload_n hB 1 rfl (by decide +kernel : decode cX0_cut 55 = .ok (.iload_n 1, 1)) rfl ?_
  refine r_iload_n hB 2 rfl (by decide +kernel : decode cX0_cut 56 = .ok (.iload_n 2, 1)) rfl ?_
  refine r_cVi hB [.int l1, .int l2] [.ref (b + l0)] cf0 (own := "PulseRemote$Clusters") rfl cmX0_mean imX0_mean (Or.inl k_814) (by decide) rfl rfl rfl (Nat.le_of_ble_eq_true rfl) (by decide +kernel : decode cX0_cut 57 = .ok (.invokevirtual 22, 3)) (fun z hz => m_X0_mean _ _ _ _ hz) rfl hf (fun z57 hf => ?_)
  refine r_cVv hB [.int z57.1] [] cf0 (own := "PulseRemote$Clusters") rfl cmX0_noteCluster imX0_noteCluster (Or.inl k_819) (by decide) rfl rfl rfl (Nat.le_of_ble_eq_true rfl) (by decide +kernel : decode cX0_cut 60 = .ok (.invokevirtual 26, 3)) (fun z hz => m_X0_noteCluster _ _ _ _ hz) rfl hf (fun z60 hf => ?_)
  refine r_iload_n hB 2 rfl (by decide +kernel : decode cX0_cut 63 = .ok (.iload_n 2, 1)) rfl ?_
  refine r_istore_n hB (by decide +kernel : decode cX0_cut 64 = .ok (.istore_n 1, 1)) rfl (by decide) rfl ?_
  refine ww_lv (lv' := [(1, .int l2), (0, .ref (b + l0)), (2, .int l2)]) rfl ?_
  exact WW.sub [1, 0, 2] rfl (t_X0_cut_65 hB hf hk)
set_option maxHeartbeats 4000000 in
set_option maxRecDepth 100000 in
theorem t_X0_cut_9_b {X : BX} {D : va_G} {cy : Nat → ClassId} {b : Nat} {r : Option Value} {μ' : MS} (hB : BB X D cy b yX0_cut cX0_cut 3 none rmX0_cut) {l0 : Nat} {l1 : Int32} {l2 : Int32} {μ : MS} {z : ((Nat × Int32 × Int32 × MS) ⊕ MS)} (hf : f_X0_cut_9_b l0 l1 l2 μ = some z) (hk : (Sum.elim (fun s : Nat × Int32 × Int32 × MS => WW X D cy b r μ' 3 0 0 9 [(0, .ref (b + s.1)), (1, .int s.2.1), (2, .int s.2.2.1)] [] s.2.2.2) (fun z : MS => r = none ∧ μ' = z)) z) : WW X D cy b r μ' 3 0 0 9 [(0, .ref (b + l0)), (1, .int l1), (2, .int l2)] [] μ := by
  unfold f_X0_cut_9_b at hf
  refine r_iload_n hB 2 rfl (by decide +kernel : decode cX0_cut 9 = .ok (.iload_n 2, 1)) rfl ?_
  refine r_aload_n hB 0 rfl (by decide +kernel : decode cX0_cut 10 = .ok (.aload_n 0, 1)) rfl ?_
  refine r_gI hB cf0 1 (by decide) (own := "PulseRemote$Clusters") rfl (Or.inl k_300) (by decide +kernel) (by decide +kernel : decode cX0_cut 11 = .ok (.getfield 15, 3)) hf (fun x11 hf => ?_)
  refine r_icmp_gt hB (tgt := 71) (by decide +kernel : decode cX0_cut 14 = .ok (.if_icmp .gt 57, 3)) (by decide) hf (fun _ hf => ?_) (fun _ hf => ?_)
  · obtain ⟨_, hx0, rfl⟩ := xr_inv hf
    exact WW.sub [] rfl (t_X0_cut_71 hB hx0 hk)
  · refine r_iload_n hB 2 rfl (by decide +kernel : decode cX0_cut 17 = .ok (.iload_n 2, 1)) rfl ?_
    refine r_sipush hB (v := 200) (by decide +kernel : decode cX0_cut 18 = .ok (.sipush 200, 3)) (by decide +kernel) ?_
    refine r_icmp_gt hB (tgt := 71) (by decide +kernel : decode cX0_cut 21 = .ok (.if_icmp .gt 50, 3)) (by decide) hf (fun _ hf => ?_) (fun _ hf => ?_)
    · obtain ⟨_, hx0, rfl⟩ := xr_inv hf
      exact WW.sub [] rfl (t_X0_cut_71 hB hx0 hk)
    · refine r_iload_n hB 2 rfl (by decide +kernel : decode cX0_cut 24 = .ok (.iload_n 2, 1)) rfl ?_
      refine r_aload_n hB 0 rfl (by decide +kernel : decode cX0_cut 25 = .ok (.aload_n 0, 1)) rfl ?_
      refine r_gI hB cf0 1 (by decide) (own := "PulseRemote$Clusters") rfl (Or.inl k_300) (by decide +kernel) (by decide +kernel : decode cX0_cut 26 = .ok (.getfield 15, 3)) hf (fun x26 hf => ?_)
      refine r_icmp_eq hB (tgt := 53) (by decide +kernel : decode cX0_cut 29 = .ok (.if_icmp .eq 24, 3)) (by decide) hf (fun _ hf => ?_) (fun _ hf => ?_)
      · exact WW.sub [0, 1, 2] rfl (t_X0_cut_53 hB hf hk)
      · refine r_iconst hB (v := 2) (by decide +kernel : decode cX0_cut 32 = .ok (.iconst 2, 1)) (by decide +kernel) ?_
        refine r_aload_n hB 0 rfl (by decide +kernel : decode cX0_cut 33 = .ok (.aload_n 0, 1)) rfl ?_
        refine r_gR hB cf0 0 (by decide) (own := "PulseRemote$Clusters") rfl (Or.inl k_299) (by decide +kernel) (by decide +kernel : decode cX0_cut 34 = .ok (.getfield 9, 3)) hf (fun x34 hf => ?_)
        refine r_iload_n hB 2 rfl (by decide +kernel : decode cX0_cut 37 = .ok (.iload_n 2, 1)) rfl ?_
        refine r_iald hB (by decide +kernel : decode cX0_cut 38 = .ok (.iaload, 1)) hf (fun x38 hf => ?_)
        refine r_imul hB (by decide +kernel : decode cX0_cut 39 = .ok (.imul, 1)) ?_
        refine r_iconst hB (v := 3) (by decide +kernel : decode cX0_cut 40 = .ok (.iconst 3, 1)) (by decide +kernel) ?_
        refine r_aload_n hB 0 rfl (by decide +kernel : decode cX0_cut 41 = .ok (.aload_n 0, 1)) rfl ?_
        refine r_gR hB cf0 0 (by decide) (own := "PulseRemote$Clusters") rfl (Or.inl k_299) (by decide +kernel) (by decide +kernel : decode cX0_cut 42 = .ok (.getfield 9, 3)) hf (fun x42 hf => ?_)
        refine r_iload_n hB 2 rfl (by decide +kernel : decode cX0_cut 45 = .ok (.iload_n 2, 1)) rfl ?_
        refine r_iconst hB (v := 1) (by decide +kernel : decode cX0_cut 46 = .ok (.iconst 1, 1)) (by decide +kernel) ?_
        refine r_isub hB (by decide +kernel : decode cX0_cut 47 = .ok (.isub, 1)) ?_
        refine r_iald hB (by decide +kernel : decode cX0_cut 48 = .ok (.iaload, 1)) hf (fun x48 hf => ?_)
        refine r_imul hB (by decide +kernel : decode cX0_cut 49 = .ok (.imul, 1)) ?_
        refine r_icmp_le hB (tgt := 65) (by decide +kernel : decode cX0_cut 50 = .ok (.if_icmp .le 15, 3)) (by decide) hf (fun _ hf => ?_) (fun _ hf => ?_)
        · exact WW.sub [0, 1, 2] rfl (t_X0_cut_65 hB hf hk)
        · exact WW.sub [0, 1, 2] rfl (t_X0_cut_53 hB hf hk)
set_option maxHeartbeats 4000000 in
set_option maxRecDepth 100000 in
theorem t_X0_cut_9 {X : BX} {D : va_G} {cy : Nat → ClassId} {b : Nat} {r : Option Value} {μ' : MS} (hB : BB X D cy b yX0_cut cX0_cut 3 none rmX0_cut) {l0 : Nat} {l1 : Int32} {l2 : Int32} {μ : MS} {z : MS} (hf : f_X0_cut_9 l0 l1 l2 μ = some z) (hk : (fun z : MS => r = none ∧ μ' = z) z) : WW X D cy b r μ' 3 0 0 9 [(0, .ref (b + l0)), (1, .int l1), (2, .int l2)] [] μ :=
  lp_ind (P := fun s : Nat × Int32 × Int32 × MS => WW X D cy b r μ' 3 0 0 9 [(0, .ref (b + s.1)), (1, .int s.2.1), (2, .int s.2.2.1)] [] s.2.2.2) (Q := (fun z : MS => r = none ∧ μ' = z)) (fun s z hz hk => t_X0_cut_9_b hB hz hk) (l0, l1, l2, μ) z hf hk
set_option maxHeartbeats 4000000 in
set_option maxRecDepth 100000 in
theorem t_X0_cut_0 {X : BX} {D : va_G} {cy : Nat → ClassId} {b : Nat} {r : Option Value} {μ' : MS} (hB : BB X D cy b yX0_cut cX0_cut 3 none rmX0_cut) {l0 : Nat} {μ : MS} {z : MS} (hf : f_X0_cut l0 μ = some z) (hk : (fun z : MS => r = none ∧ μ' = z) z) : WW X D cy b r μ' 3 0 0 0 [(0, .ref (b + l0))] [] μ := by
  unfold f_X0_cut at hf
  refine r_aload_n hB 0 rfl (by decide +kernel : decode cX0_cut 0 = .ok (.aload_n 0, 1)) rfl ?_
  refine r_iconst hB (v := 0) (by decide +kernel : decode cX0_cut 1 = .ok (.iconst 0, 1)) (by decide +kernel) ?_
  refine r_pI hB cf0 2 (by decide) (own := "PulseRemote$Clusters") rfl (Or.inl k_301) (Or.inl rfl) rfl (by decide +kernel : decode cX0_cut 2 = .ok (.putfield 19, 3)) hf (fun m2 hf => ?_)
  refine r_iconst hB (v := 0) (by decide +kernel : decode cX0_cut 5 = .ok (.iconst 0, 1)) (by decide +kernel) ?_
  refine r_istore_n hB (by decide +kernel : decode cX0_cut 6 = .ok (.istore_n 1, 1)) rfl (by decide) rfl ?_
  refine ww_lv (lv' := [(1, .int 0), (0, .ref (b + l0))]) rfl ?_
  refine r_iconst hB (v := 1) (by decide +kernel : decode cX0_cut 7 = .ok (.iconst 1, 1)) (by decide +kernel) ?_
  refine r_istore_n hB (by decide +kernel : decode cX0_cut 8 = .ok (.istore_n 2, 1)) rfl (by decide) rfl ?_
  refine ww_lv (lv' := [(2, .int 1), (1, .int 0), (0, .ref (b + l0))]) rfl ?_
  exact WW.sub [2, 1, 0] rfl (t_X0_cut_9 hB hf hk)
theorem m_X0_cut (l : Launch) (D : va_G) (cy : Nat → ClassId) (b : Nat) {l0 : Nat} {μ : MS} {z : MS} (hf : f_X0_cut l0 μ = some z) : Met l yX0_cut (.code yX0_cut cX0_cut 3 none :: GW) rmX0_cut (Pw D cy b [.ref (b + l0)] μ) (Qw D cy b (none) (z)) rmX0_cut.cells rmX0_cut.slots (fun q => b ≤ q) :=
  met_of (by decide) (Nat.le_of_ble_eq_true rfl) (fun X hB _ => (t_X0_cut_0 hB hf ⟨rfl, rfl⟩))
-- PulseRemote$Learner.gather(LPulseRemote$FrameList;)Z
set_option maxHeartbeats 4000000 in
set_option maxRecDepth 100000 in
theorem t_X4_gather_103 {X : BX} {D : va_G} {cy : Nat → ClassId} {b : Nat} {r : Option Value} {μ' : MS} (hB : BB X D cy b yX4_gather cX4_gather 6 (some .boolean) rmX4_gather) {l0 : Nat} {l2 : Int32} {l3 : Int32} {l4 : Int32} {μ : MS} {z : (Int32 × MS)} (hf : f_X4_gather_103 l0 l2 l3 l4 μ = some z) (hk : (fun z : Int32 × MS => r = some (.int z.1) ∧ μ' = z.2) z) : WW X D cy b r μ' 6 0 0 103 [(0, .ref (b + l0)), (2, .int l2), (3, .int l3), (4, .int l4)] [] μ := by
  unfold f_X4_gather_103 at hf
  refine r_iload_n hB 1 rfl (by decide +kernel : decode cX4_gather 103 = .ok (.iload_n 2, 1)) rfl ?_
  refine r_if_ne hB (tgt := 109) (by decide +kernel : decode cX4_gather 104 = .ok (.ifCond .ne 5, 3)) (by decide) hf (fun _ hf => ?_) (fun _ hf => ?_)
  · refine r_iconst hB (v := 0) (by decide +kernel : decode cX4_gather 107 = .ok (.iconst 0, 1)) (by decide +kernel) ?_
    obtain rfl := Option.some.inj hf
    obtain ⟨rfl, rfl⟩ := hk
    exact r_zret hB (Or.inl rfl) (by decide +kernel : decode cX4_gather 108 = .ok (.ireturn, 1))
  · refine r_aload_n hB 0 rfl (by decide +kernel : decode cX4_gather 109 = .ok (.aload_n 0, 1)) rfl ?_
    refine r_iload_n hB 2 rfl (by decide +kernel : decode cX4_gather 110 = .ok (.iload_n 3, 1)) rfl ?_
    refine r_iload_n hB 1 rfl (by decide +kernel : decode cX4_gather 111 = .ok (.iload_n 2, 1)) rfl ?_
    refine r_idiv hB (by decide +kernel : decode cX4_gather 112 = .ok (.idiv, 1)) hf (fun v112 hf => ?_)
    refine r_pI hB cf4 3 (by decide) (own := "PulseRemote$Learner") rfl (Or.inl k_321) (Or.inl rfl) rfl (by decide +kernel : decode cX4_gather 113 = .ok (.putfield 45, 3)) hf (fun m113 hf => ?_)
    refine r_aload_n hB 0 rfl (by decide +kernel : decode cX4_gather 116 = .ok (.aload_n 0, 1)) rfl ?_
    refine r_iload hB 3 rfl (by decide +kernel : decode cX4_gather 117 = .ok (.iload 4, 2)) ?_
    refine r_iload_n hB 1 rfl (by decide +kernel : decode cX4_gather 119 = .ok (.iload_n 2, 1)) rfl ?_
    refine r_idiv hB (by decide +kernel : decode cX4_gather 120 = .ok (.idiv, 1)) hf (fun v120 hf => ?_)
    refine r_pI hB cf4 4 (by decide) (own := "PulseRemote$Learner") rfl (Or.inl k_323) (Or.inl rfl) rfl (by decide +kernel : decode cX4_gather 121 = .ok (.putfield 48, 3)) hf (fun m121 hf => ?_)
    refine r_aload_n hB 0 rfl (by decide +kernel : decode cX4_gather 124 = .ok (.aload_n 0, 1)) rfl ?_
    refine r_gR hB cf4 0 (by decide) (own := "PulseRemote$Learner") rfl (Or.inl k_318) (by decide +kernel) (by decide +kernel : decode cX4_gather 125 = .ok (.getfield 12, 3)) hf (fun x125 hf => ?_)
    refine r_cVv hB [] [] cf0 (own := "PulseRemote$Learner") rfl cmX0_cut imX0_cut (Or.inl k_810) (by decide) rfl rfl rfl (Nat.le_of_ble_eq_true rfl) (by decide +kernel : decode cX4_gather 128 = .ok (.invokevirtual 51, 3)) (fun z hz => m_X0_cut _ _ _ _ hz) rfl hf (fun z128 hf => ?_)
    refine r_aload_n hB 0 rfl (by decide +kernel : decode cX4_gather 131 = .ok (.aload_n 0, 1)) rfl ?_
    refine r_gR hB cf4 1 (by decide) (own := "PulseRemote$Learner") rfl (Or.inl k_319) (by decide +kernel) (by decide +kernel : decode cX4_gather 132 = .ok (.getfield 18, 3)) hf (fun x132 hf => ?_)
    refine r_cVv hB [] [] cf0 (own := "PulseRemote$Learner") rfl cmX0_cut imX0_cut (Or.inl k_810) (by decide) rfl rfl rfl (Nat.le_of_ble_eq_true rfl) (by decide +kernel : decode cX4_gather 135 = .ok (.invokevirtual 51, 3)) (fun z hz => m_X0_cut _ _ _ _ hz) rfl hf (fun z135 hf => ?_)
    refine r_iconst hB (v := 1) (by decide +kernel : decode cX4_gather 138 = .ok (.iconst 1, 1)) (by decide +kernel) ?_
    obtain rfl := Option.some.inj hf
    obtain ⟨rfl, rfl⟩ := hk
    exact r_zret hB (Or.inr rfl) (by decide +kernel : decode cX4_gather 139 = .ok (.ireturn, 1))
set_option maxHeartbeats 4000000 in
set_option maxRecDepth 100000 in
theorem t_X4_gather_97 {X : BX} {D : va_G} {cy : Nat → ClassId} {b : Nat} {r : Option Value} {μ' : MS} (hB : BB X D cy b yX4_gather cX4_gather 6 (some .boolean) rmX4_gather) {l0 : Nat} {l1 : Nat} {l2 : Int32} {l3 : Int32} {l4 : Int32} {l5 : Int32} {μ : MS} {z : ((Nat × Nat × Int32 × Int32 × Int32 × Int32 × MS) ⊕ (Int32 × MS))} (hf : f_X4_gather_97 l0 l1 l2 l3 l4 l5 μ = some z) (hk : (Sum.elim (fun s : Nat × Nat × Int32 × Int32 × Int32 × Int32 × MS => WW X D cy b r μ' 6 0 0 43 [(0, .ref (b + s.1)), (1, .ref (b + s.2.1)), (2, .int s.2.2.1), (3, .int s.2.2.2.1), (4, .int s.2.2.2.2.1), (5, .int s.2.2.2.2.2.1)] [] s.2.2.2.2.2.2) (fun z : Int32 × MS => r = some (.int z.1) ∧ μ' = z.2)) z) : WW X D cy b r μ' 6 0 0 97 [(0, .ref (b + l0)), (1, .ref (b + l1)), (2, .int l2), (3, .int l3), (4, .int l4), (5, .int l5)] [] μ := by
  unfold f_X4_gather_97 at hf
  refine r_iincB hB 5 rfl (by decide +kernel : decode cX4_gather 97 = .ok (.iinc 5 1, 3)) (w := 1) (by decide +kernel) (by decide) hf (fun v97 hf => ?_)
  refine ww_lv (lv' := [(5, .int v97), (0, .ref (b + l0)), (1, .ref (b + l1)), (2, .int l2), (3, .int l3), (4, .int l4)]) rfl ?_
  refine r_goto hB (tgt := 43) (by decide +kernel : decode cX4_gather 100 = .ok (.goto (-57), 3)) (by decide) ?_
  obtain rfl := Option.some.inj hf
  exact WW.sub [1, 2, 3, 4, 5, 0] rfl hk
set_option maxHeartbeats 4000000 in
set_option maxRecDepth 100000 in
theorem t_X4_gather_43_b {X : BX} {D : va_G} {cy : Nat → ClassId} {b : Nat} {r : Option Value} {μ' : MS} (hB : BB X D cy b yX4_gather cX4_gather 6 (some .boolean) rmX4_gather) {l0 : Nat} {l1 : Nat} {l2 : Int32} {l3 : Int32} {l4 : Int32} {l5 : Int32} {μ : MS} {z : ((Nat × Nat × Int32 × Int32 × Int32 × Int32 × MS) ⊕ (Int32 × MS))} (hf : f_X4_gather_43_b l0 l1 l2 l3 l4 l5 μ = some z) (hk : (Sum.elim (fun s : Nat × Nat × Int32 × Int32 × Int32 × Int32 × MS => WW X D cy b r μ' 6 0 0 43 [(0, .ref (b + s.1)), (1, .ref (b + s.2.1)), (2, .int s.2.2.1), (3, .int s.2.2.2.1), (4, .int s.2.2.2.2.1), (5, .int s.2.2.2.2.2.1)] [] s.2.2.2.2.2.2) (fun z : Int32 × MS => r = some (.int z.1) ∧ μ' = z.2)) z) : WW X D cy b r μ' 6 0 0 43 [(0, .ref (b + l0)), (1, .ref (b + l1)), (2, .int l2), (3, .int l3), (4, .int l4), (5, .int l5)] [] μ := by
  unfold f_X4_gather_43_b at hf
  refine r_iload hB 5 rfl (by decide +kernel : decode cX4_gather 43 = .ok (.iload 5, 2)) ?_
  refine r_aload_n hB 1 rfl (by decide +kernel : decode cX4_gather 45 = .ok (.aload_n 1, 1)) rfl ?_
  refine r_gI hB cf3 2 (by decide) (own := "PulseRemote$Learner") rfl (Or.inr ⟨_, k_209⟩) (by decide +kernel) (by decide +kernel : decode cX4_gather 46 = .ok (.getfield 34, 3)) hf (fun x46 hf => ?_)
  refine r_icmp_ge hB (tgt := 103) (by decide +kernel : decode cX4_gather 49 = .ok (.if_icmp .ge 54, 3)) (by decide) hf (fun _ hf => ?_) (fun _ hf => ?_)
  · obtain ⟨_, hx0, rfl⟩ := xr_inv hf
    exact WW.sub [0, 2, 3, 4] rfl (t_X4_gather_103 hB hx0 hk)
  · refine r_aload_n hB 1 rfl (by decide +kernel : decode cX4_gather 52 = .ok (.aload_n 1, 1)) rfl ?_
    refine r_iload hB 5 rfl (by decide +kernel : decode cX4_gather 53 = .ok (.iload 5, 2)) ?_
    refine r_cVi hB [.int l5] [] cf3 (own := "PulseRemote$Learner") rfl cmX3_sizeOf imX3_sizeOf (Or.inl k_796) (by decide) rfl rfl rfl (Nat.le_of_ble_eq_true rfl) (by decide +kernel : decode cX4_gather 55 = .ok (.invokevirtual 21, 3)) (fun z hz => m_X3_sizeOf _ _ _ _ hz) rfl hf (fun z55 hf => ?_)
    refine r_aload_n hB 0 rfl (by decide +kernel : decode cX4_gather 58 = .ok (.aload_n 0, 1)) rfl ?_
    refine r_gI hB cf4 2 (by decide) (own := "PulseRemote$Learner") rfl (Or.inl k_320) (by decide +kernel) (by decide +kernel : decode cX4_gather 59 = .ok (.getfield 27, 3)) hf (fun x59 hf => ?_)
    refine r_icmp_ne hB (tgt := 97) (by decide +kernel : decode cX4_gather 62 = .ok (.if_icmp .ne 35, 3)) (by decide) hf (fun _ hf => ?_) (fun _ hf => ?_)
    · refine r_iincB hB 2 rfl (by decide +kernel : decode cX4_gather 65 = .ok (.iinc 2 1, 3)) (w := 1) (by decide +kernel) (by decide) hf (fun v65 hf => ?_)
      refine ww_lv (lv' := [(2, .int v65), (0, .ref (b + l0)), (1, .ref (b + l1)), (3, .int l3), (4, .int l4), (5, .int l5)]) rfl ?_
      refine r_iload_n hB 3 rfl (by decide +kernel : decode cX4_gather 68 = .ok (.iload_n 3, 1)) rfl ?_
      refine r_aload_n hB 2 rfl (by decide +kernel : decode cX4_gather 69 = .ok (.aload_n 1, 1)) rfl ?_
      refine r_iload hB 5 rfl (by decide +kernel : decode cX4_gather 70 = .ok (.iload 5, 2)) ?_
      refine r_iconst hB (v := 0) (by decide +kernel : decode cX4_gather 72 = .ok (.iconst 0, 1)) (by decide +kernel) ?_
      refine r_cVi hB [.int l5, .int 0] [.int l3] cf3 (own := "PulseRemote$Learner") rfl cmX3_durationAt imX3_durationAt (Or.inl k_801) (by decide) rfl rfl rfl (Nat.le_of_ble_eq_true rfl) (by decide +kernel : decode cX4_gather 73 = .ok (.invokevirtual 37, 3)) (fun z hz => m_X3_durationAt _ _ _ _ hz) rfl hf (fun z73 hf => ?_)
      refine r_iadd hB (by decide +kernel : decode cX4_gather 76 = .ok (.iadd, 1)) ?_
      refine r_name hf (fun v77 hf => ?_)
      refine r_istore_n hB (by decide +kernel : decode cX4_gather 77 = .ok (.istore_n 3, 1)) rfl (by decide) rfl ?_
      refine ww_lv (lv' := [(3, .int v77), (2, .int v65), (0, .ref (b + l0)), (1, .ref (b + l1)), (4, .int l4), (5, .int l5)]) rfl ?_
      refine r_iload hB 4 rfl (by decide +kernel : decode cX4_gather 78 = .ok (.iload 4, 2)) ?_
      refine r_aload_n hB 3 rfl (by decide +kernel : decode cX4_gather 80 = .ok (.aload_n 1, 1)) rfl ?_
      refine r_iload hB 5 rfl (by decide +kernel : decode cX4_gather 81 = .ok (.iload 5, 2)) ?_
      refine r_iconst hB (v := 1) (by decide +kernel : decode cX4_gather 83 = .ok (.iconst 1, 1)) (by decide +kernel) ?_
      refine r_cVi hB [.int l5, .int 1] [.int l4] cf3 (own := "PulseRemote$Learner") rfl cmX3_durationAt imX3_durationAt (Or.inl k_801) (by decide) rfl rfl rfl (Nat.le_of_ble_eq_true rfl) (by decide +kernel : decode cX4_gather 84 = .ok (.invokevirtual 37, 3)) (fun z hz => m_X3_durationAt _ _ _ _ hz) rfl hf (fun z84 hf => ?_)
      refine r_iadd hB (by decide +kernel : decode cX4_gather 87 = .ok (.iadd, 1)) ?_
      refine r_name hf (fun v88 hf => ?_)
      refine r_istore hB (by decide +kernel : decode cX4_gather 88 = .ok (.istore 4, 2)) (by decide) rfl ?_
      refine ww_lv (lv' := [(4, .int v88), (3, .int v77), (2, .int v65), (0, .ref (b + l0)), (1, .ref (b + l1)), (5, .int l5)]) rfl ?_
      refine r_aload_n hB 3 rfl (by decide +kernel : decode cX4_gather 90 = .ok (.aload_n 0, 1)) rfl ?_
      refine r_aload_n hB 4 rfl (by decide +kernel : decode cX4_gather 91 = .ok (.aload_n 1, 1)) rfl ?_
      refine r_iload hB 5 rfl (by decide +kernel : decode cX4_gather 92 = .ok (.iload 5, 2)) ?_
      refine r_cVv hB [.ref (b + l1), .int l5] [] cf4 (own := "PulseRemote$Learner") rfl cmX4_insertAll imX4_insertAll (Or.inl k_802) (by decide) rfl rfl rfl (Nat.le_of_ble_eq_true rfl) (by decide +kernel : decode cX4_gather 94 = .ok (.invokevirtual 41, 3)) (fun z hz => m_X4_insertAll _ _ _ _ hz) rfl hf (fun z94 hf => ?_)
      exact WW.sub [3, 4, 2, 1, 0, 5] rfl (t_X4_gather_97 hB hf hk)
    · exact WW.sub [0, 1, 2, 3, 4, 5] rfl (t_X4_gather_97 hB hf hk)
set_option maxHeartbeats 4000000 in
set_option maxRecDepth 100000 in
theorem t_X4_gather_43 {X : BX} {D : va_G} {cy : Nat → ClassId} {b : Nat} {r : Option Value} {μ' : MS} (hB : BB X D cy b yX4_gather cX4_gather 6 (some .boolean) rmX4_gather) {l0 : Nat} {l1 : Nat} {l2 : Int32} {l3 : Int32} {l4 : Int32} {l5 : Int32} {μ : MS} {z : (Int32 × MS)} (hf : f_X4_gather_43 l0 l1 l2 l3 l4 l5 μ = some z) (hk : (fun z : Int32 × MS => r = some (.int z.1) ∧ μ' = z.2) z) : WW X D cy b r μ' 6 0 0 43 [(0, .ref (b + l0)), (1, .ref (b + l1)), (2, .int l2), (3, .int l3), (4, .int l4), (5, .int l5)] [] μ :=
  lp_ind (P := fun s : Nat × Nat × Int32 × Int32 × Int32 × Int32 × MS => WW X D cy b r μ' 6 0 0 43 [(0, .ref (b + s.1)), (1, .ref (b + s.2.1)), (2, .int s.2.2.1), (3, .int s.2.2.2.1), (4, .int s.2.2.2.2.1), (5, .int s.2.2.2.2.2.1)] [] s.2.2.2.2.2.2) (Q := (fun z : Int32 × MS => r = some (.int z.1) ∧ μ' = z.2)) (fun s z hz hk => t_X4_gather_43_b hB hz hk) (l0, l1, l2, l3, l4, l5, μ) z hf hk
set_option maxHeartbeats 4000000 in
set_option maxRecDepth 100000 in
theorem t_X4_gather_0 {X : BX} {D : va_G} {cy : Nat → ClassId} {b : Nat} {r : Option Value} {μ' : MS} (hB : BB X D cy b yX4_gather cX4_gather 6 (some .boolean) rmX4_gather) {l0 : Nat} {l1 : Nat} {μ : MS} {z : (Int32 × MS)} (hf : f_X4_gather l0 l1 μ = some z) (hk : (fun z : Int32 × MS => r = some (.int z.1) ∧ μ' = z.2) z) : WW X D cy b r μ' 6 0 0 0 [(0, .ref (b + l0)), (1, .ref (b + l1))] [] μ := by
  unfold f_X4_gather at hf
  refine r_aload_n hB 0 rfl (by decide +kernel : decode cX4_gather 0 = .ok (.aload_n 0, 1)) rfl ?_
  refine r_aload_n hB 1 rfl (by decide +kernel : decode cX4_gather 1 = .ok (.aload_n 1, 1)) rfl ?_
  refine r_iconst hB (v := 0) (by decide +kernel : decode cX4_gather 2 = .ok (.iconst 0, 1)) (by decide +kernel) ?_
  refine r_cVi hB [.int 0] [.ref (b + l0)] cf3 (own := "PulseRemote$Learner") rfl cmX3_sizeOf imX3_sizeOf (Or.inl k_796) (by decide) rfl rfl rfl (Nat.le_of_ble_eq_true rfl) (by decide +kernel : decode cX4_gather 3 = .ok (.invokevirtual 21, 3)) (fun z hz => m_X3_sizeOf _ _ _ _ hz) rfl hf (fun z3 hf => ?_)
  refine r_pI hB cf4 2 (by decide) (own := "PulseRemote$Learner") rfl (Or.inl k_320) (Or.inl rfl) rfl (by decide +kernel : decode cX4_gather 6 = .ok (.putfield 27, 3)) hf (fun m6 hf => ?_)
  refine r_aload_n hB 0 rfl (by decide +kernel : decode cX4_gather 9 = .ok (.aload_n 0, 1)) rfl ?_
  refine r_gI hB cf4 2 (by decide) (own := "PulseRemote$Learner") rfl (Or.inl k_320) (by decide +kernel) (by decide +kernel : decode cX4_gather 10 = .ok (.getfield 27, 3)) hf (fun x10 hf => ?_)
  refine r_iconst hB (v := 5) (by decide +kernel : decode cX4_gather 13 = .ok (.iconst 5, 1)) (by decide +kernel) ?_
  refine r_icmp_ge hB (tgt := 19) (by decide +kernel : decode cX4_gather 14 = .ok (.if_icmp .ge 5, 3)) (by decide) hf (fun _ hf => ?_) (fun _ hf => ?_)
  · refine r_aload_n hB 0 rfl (by decide +kernel : decode cX4_gather 19 = .ok (.aload_n 0, 1)) rfl ?_
    refine r_gR hB cf4 0 (by decide) (own := "PulseRemote$Learner") rfl (Or.inl k_318) (by decide +kernel) (by decide +kernel : decode cX4_gather 20 = .ok (.getfield 12, 3)) hf (fun x20 hf => ?_)
    refine r_cVv hB [] [] cf0 (own := "PulseRemote$Learner") rfl cmX0_makeEmpty imX0_makeEmpty (Or.inl k_797) (by decide) rfl rfl rfl (Nat.le_of_ble_eq_true rfl) (by decide +kernel : decode cX4_gather 23 = .ok (.invokevirtual 31, 3)) (fun z hz => m_X0_makeEmpty _ _ _ _ hz) rfl hf (fun z23 hf => ?_)
    refine r_aload_n hB 0 rfl (by decide +kernel : decode cX4_gather 26 = .ok (.aload_n 0, 1)) rfl ?_
    refine r_gR hB cf4 1 (by decide) (own := "PulseRemote$Learner") rfl (Or.inl k_319) (by decide +kernel) (by decide +kernel : decode cX4_gather 27 = .ok (.getfield 18, 3)) hf (fun x27 hf => ?_)
    refine r_cVv hB [] [] cf0 (own := "PulseRemote$Learner") rfl cmX0_makeEmpty imX0_makeEmpty (Or.inl k_797) (by decide) rfl rfl rfl (Nat.le_of_ble_eq_true rfl) (by decide +kernel : decode cX4_gather 30 = .ok (.invokevirtual 31, 3)) (fun z hz => m_X0_makeEmpty _ _ _ _ hz) rfl hf (fun z30 hf => ?_)
    refine r_iconst hB (v := 0) (by decide +kernel : decode cX4_gather 33 = .ok (.iconst 0, 1)) (by decide +kernel) ?_
    refine r_istore_n hB (by decide +kernel : decode cX4_gather 34 = .ok (.istore_n 2, 1)) rfl (by decide) rfl ?_
    refine ww_lv (lv' := [(2, .int 0), (0, .ref (b + l0)), (1, .ref (b + l1))]) rfl ?_
    refine r_iconst hB (v := 0) (by decide +kernel : decode cX4_gather 35 = .ok (.iconst 0, 1)) (by decide +kernel) ?_
    refine r_istore_n hB (by decide +kernel : decode cX4_gather 36 = .ok (.istore_n 3, 1)) rfl (by decide) rfl ?_
    refine ww_lv (lv' := [(3, .int 0), (2, .int 0), (0, .ref (b + l0)), (1, .ref (b + l1))]) rfl ?_
    refine r_iconst hB (v := 0) (by decide +kernel : decode cX4_gather 37 = .ok (.iconst 0, 1)) (by decide +kernel) ?_
    refine r_istore hB (by decide +kernel : decode cX4_gather 38 = .ok (.istore 4, 2)) (by decide) rfl ?_
    refine ww_lv (lv' := [(4, .int 0), (3, .int 0), (2, .int 0), (0, .ref (b + l0)), (1, .ref (b + l1))]) rfl ?_
    refine r_iconst hB (v := 0) (by decide +kernel : decode cX4_gather 40 = .ok (.iconst 0, 1)) (by decide +kernel) ?_
    refine r_istore hB (by decide +kernel : decode cX4_gather 41 = .ok (.istore 5, 2)) (by decide) rfl ?_
    refine ww_lv (lv' := [(5, .int 0), (4, .int 0), (3, .int 0), (2, .int 0), (0, .ref (b + l0)), (1, .ref (b + l1))]) rfl ?_
    exact WW.sub [4, 5, 3, 2, 1, 0] rfl (t_X4_gather_43 hB hf hk)
  · refine r_iconst hB (v := 0) (by decide +kernel : decode cX4_gather 17 = .ok (.iconst 0, 1)) (by decide +kernel) ?_
    obtain rfl := Option.some.inj hf
    obtain ⟨rfl, rfl⟩ := hk
    exact r_zret hB (Or.inl rfl) (by decide +kernel : decode cX4_gather 18 = .ok (.ireturn, 1))
theorem m_X4_gather (l : Launch) (D : va_G) (cy : Nat → ClassId) (b : Nat) {l0 : Nat} {l1 : Nat} {μ : MS} {z : Int32 × MS} (hf : f_X4_gather l0 l1 μ = some z) : Met l yX4_gather (.code yX4_gather cX4_gather 6 (some .boolean) :: GW) rmX4_gather (Pw D cy b [.ref (b + l0), .ref (b + l1)] μ) (Qw D cy b (some (.int z.1)) (z.2)) rmX4_gather.cells rmX4_gather.slots (fun q => b ≤ q) :=
  met_of (by decide) (Nat.le_of_ble_eq_true rfl) (fun X hB _ => (t_X4_gather_0 hB hf ⟨rfl, rfl⟩))
-- PulseRemote$Learner.makeProtocol(IILPulseRemote$Clusters;LPulseRemote$Clusters;)Z
set_option maxHeartbeats 4000000 in
set_option maxRecDepth 100000 in
theorem t_X4_makeProtocol_0 {X : BX} {D : va_G} {cy : Nat → ClassId} {b : Nat} {r : Option Value} {μ' : MS} (hB : BB X D cy b yX4_makeProtocol cX4_makeProtocol 5 (some .boolean) rmX4_makeProtocol) {l0 : Nat} {l1 : Int32} {l2 : Int32} {l3 : Nat} {l4 : Nat} {μ : MS} {z : (Int32 × MS)} (hf : f_X4_makeProtocol l0 l1 l2 l3 l4 μ = some z) (hk : (fun z : Int32 × MS => r = some (.int z.1) ∧ μ' = z.2) z) : WW X D cy b r μ' 5 0 0 0 [(0, .ref (b + l0)), (1, .int l1), (2, .int l2), (3, .ref (b + l3)), (4, .ref (b + l4))] [] μ := by
  unfold f_X4_makeProtocol at hf
  refine r_aload_n hB 0 rfl (by decide +kernel : decode cX4_makeProtocol 0 = .ok (.aload_n 0, 1)) rfl ?_
  refine r_iload_n hB 1 rfl (by decide +kernel : decode cX4_makeProtocol 1 = .ok (.iload_n 1, 1)) rfl ?_
  refine r_pI hB cf4 5 (by decide) (own := "PulseRemote$Learner") rfl (Or.inl k_325) (Or.inl rfl) rfl (by decide +kernel : decode cX4_makeProtocol 2 = .ok (.putfield 65, 3)) hf (fun m2 hf => ?_)
  refine r_aload_n hB 0 rfl (by decide +kernel : decode cX4_makeProtocol 5 = .ok (.aload_n 0, 1)) rfl ?_
  refine r_iload_n hB 2 rfl (by decide +kernel : decode cX4_makeProtocol 6 = .ok (.iload_n 2, 1)) rfl ?_
  refine r_pI hB cf4 6 (by decide) (own := "PulseRemote$Learner") rfl (Or.inl k_327) (Or.inl rfl) rfl (by decide +kernel : decode cX4_makeProtocol 7 = .ok (.putfield 68, 3)) hf (fun m7 hf => ?_)
  refine r_aload_n hB 0 rfl (by decide +kernel : decode cX4_makeProtocol 10 = .ok (.aload_n 0, 1)) rfl ?_
  refine r_aload_n hB 3 rfl (by decide +kernel : decode cX4_makeProtocol 11 = .ok (.aload_n 3, 1)) rfl ?_
  refine r_gI hB cf0 3 (by decide) (own := "PulseRemote$Learner") rfl (Or.inr ⟨_, k_304⟩) (by decide +kernel) (by decide +kernel : decode cX4_makeProtocol 12 = .ok (.getfield 71, 3)) hf (fun x12 hf => ?_)
  refine r_pI hB cf4 7 (by decide) (own := "PulseRemote$Learner") rfl (Or.inl k_329) (Or.inl rfl) rfl (by decide +kernel : decode cX4_makeProtocol 15 = .ok (.putfield 74, 3)) hf (fun m15 hf => ?_)
  refine r_aload_n hB 0 rfl (by decide +kernel : decode cX4_makeProtocol 18 = .ok (.aload_n 0, 1)) rfl ?_
  refine r_aload hB 4 rfl (by decide +kernel : decode cX4_makeProtocol 19 = .ok (.aload 4, 2)) ?_
  refine r_gI hB cf0 3 (by decide) (own := "PulseRemote$Learner") rfl (Or.inr ⟨_, k_304⟩) (by decide +kernel) (by decide +kernel : decode cX4_makeProtocol 21 = .ok (.getfield 71, 3)) hf (fun x21 hf => ?_)
  refine r_pI hB cf4 8 (by decide) (own := "PulseRemote$Learner") rfl (Or.inl k_331) (Or.inl rfl) rfl (by decide +kernel : decode cX4_makeProtocol 24 = .ok (.putfield 77, 3)) hf (fun m24 hf => ?_)
  refine r_aload_n hB 0 rfl (by decide +kernel : decode cX4_makeProtocol 27 = .ok (.aload_n 0, 1)) rfl ?_
  refine r_aload hB 4 rfl (by decide +kernel : decode cX4_makeProtocol 28 = .ok (.aload 4, 2)) ?_
  refine r_gI hB cf0 4 (by decide) (own := "PulseRemote$Learner") rfl (Or.inr ⟨_, k_306⟩) (by decide +kernel) (by decide +kernel : decode cX4_makeProtocol 30 = .ok (.getfield 80, 3)) hf (fun x30 hf => ?_)
  refine r_pI hB cf4 9 (by decide) (own := "PulseRemote$Learner") rfl (Or.inl k_333) (Or.inl rfl) rfl (by decide +kernel : decode cX4_makeProtocol 33 = .ok (.putfield 83, 3)) hf (fun m33 hf => ?_)
  refine r_aload_n hB 0 rfl (by decide +kernel : decode cX4_makeProtocol 36 = .ok (.aload_n 0, 1)) rfl ?_
  refine r_gI hB cf4 6 (by decide) (own := "PulseRemote$Learner") rfl (Or.inl k_327) (by decide +kernel) (by decide +kernel : decode cX4_makeProtocol 37 = .ok (.getfield 68, 3)) hf (fun x37 hf => ?_)
  refine r_bipush hB (v := 16) (by decide +kernel : decode cX4_makeProtocol 40 = .ok (.bipush 16, 2)) (by decide +kernel) ?_
  refine r_icmp_gt hB (tgt := 79) (by decide +kernel : decode cX4_makeProtocol 42 = .ok (.if_icmp .gt 37, 3)) (by decide) hf (fun _ hf => ?_) (fun _ hf => ?_)
  · refine r_iconst hB (v := 0) (by decide +kernel : decode cX4_makeProtocol 79 = .ok (.iconst 0, 1)) (by decide +kernel) ?_
    obtain rfl := Option.some.inj hf
    obtain ⟨rfl, rfl⟩ := hk
    exact r_zret hB (Or.inl rfl) (by decide +kernel : decode cX4_makeProtocol 80 = .ok (.ireturn, 1))
  · refine r_aload_n hB 0 rfl (by decide +kernel : decode cX4_makeProtocol 45 = .ok (.aload_n 0, 1)) rfl ?_
    refine r_gI hB cf4 5 (by decide) (own := "PulseRemote$Learner") rfl (Or.inl k_325) (by decide +kernel) (by decide +kernel : decode cX4_makeProtocol 46 = .ok (.getfield 65, 3)) hf (fun x46 hf => ?_)
    refine r_aload_n hB 0 rfl (by decide +kernel : decode cX4_makeProtocol 49 = .ok (.aload_n 0, 1)) rfl ?_
    refine r_gI hB cf4 3 (by decide) (own := "PulseRemote$Learner") rfl (Or.inl k_321) (by decide +kernel) (by decide +kernel : decode cX4_makeProtocol 50 = .ok (.getfield 45, 3)) hf (fun x50 hf => ?_)
    refine r_aload_n hB 0 rfl (by decide +kernel : decode cX4_makeProtocol 53 = .ok (.aload_n 0, 1)) rfl ?_
    refine r_gI hB cf4 4 (by decide) (own := "PulseRemote$Learner") rfl (Or.inl k_323) (by decide +kernel) (by decide +kernel : decode cX4_makeProtocol 54 = .ok (.getfield 48, 3)) hf (fun x54 hf => ?_)
    refine r_aload_n hB 0 rfl (by decide +kernel : decode cX4_makeProtocol 57 = .ok (.aload_n 0, 1)) rfl ?_
    refine r_gI hB cf4 7 (by decide) (own := "PulseRemote$Learner") rfl (Or.inl k_329) (by decide +kernel) (by decide +kernel : decode cX4_makeProtocol 58 = .ok (.getfield 74, 3)) hf (fun x58 hf => ?_)
    refine r_aload_n hB 0 rfl (by decide +kernel : decode cX4_makeProtocol 61 = .ok (.aload_n 0, 1)) rfl ?_
    refine r_gI hB cf4 8 (by decide) (own := "PulseRemote$Learner") rfl (Or.inl k_331) (by decide +kernel) (by decide +kernel : decode cX4_makeProtocol 62 = .ok (.getfield 77, 3)) hf (fun x62 hf => ?_)
    refine r_aload_n hB 0 rfl (by decide +kernel : decode cX4_makeProtocol 65 = .ok (.aload_n 0, 1)) rfl ?_
    refine r_gI hB cf4 9 (by decide) (own := "PulseRemote$Learner") rfl (Or.inl k_333) (by decide +kernel) (by decide +kernel : decode cX4_makeProtocol 66 = .ok (.getfield 83, 3)) hf (fun x66 hf => ?_)
    refine r_cSi hB [.int x46, .int x50, .int x54, .int x58, .int x62, .int x66] [] (own := "PulseRemote$Learner") rfl cmX11_lengthsPossible smX11_lengthsPossible (Or.inr ⟨_, k_831⟩) (by decide) rfl rfl rfl (Nat.le_of_ble_eq_true rfl) (by decide +kernel : decode cX4_makeProtocol 69 = .ok (.invokestatic 86, 3)) (fun z hz => m_X11_lengthsPossible _ _ _ _ hz) rfl hf (fun z69 hf => ?_)
    refine r_if_eq hB (tgt := 79) (by decide +kernel : decode cX4_makeProtocol 72 = .ok (.ifCond .eq 7, 3)) (by decide) hf (fun _ hf => ?_) (fun _ hf => ?_)
    · refine r_iconst hB (v := 0) (by decide +kernel : decode cX4_makeProtocol 79 = .ok (.iconst 0, 1)) (by decide +kernel) ?_
      obtain rfl := Option.some.inj hf
      obtain ⟨rfl, rfl⟩ := hk
      exact r_zret hB (Or.inl rfl) (by decide +kernel : decode cX4_makeProtocol 80 = .ok (.ireturn, 1))
    · refine r_iconst hB (v := 1) (by decide +kernel : decode cX4_makeProtocol 75 = .ok (.iconst 1, 1)) (by decide +kernel) ?_
      refine r_goto hB (tgt := 80) (by decide +kernel : decode cX4_makeProtocol 76 = .ok (.goto 4, 3)) (by decide) ?_
      obtain rfl := Option.some.inj hf
      obtain ⟨rfl, rfl⟩ := hk
      exact r_zret hB (Or.inr rfl) (by decide +kernel : decode cX4_makeProtocol 80 = .ok (.ireturn, 1))
theorem m_X4_makeProtocol (l : Launch) (D : va_G) (cy : Nat → ClassId) (b : Nat) {l0 : Nat} {l1 : Int32} {l2 : Int32} {l3 : Nat} {l4 : Nat} {μ : MS} {z : Int32 × MS} (hf : f_X4_makeProtocol l0 l1 l2 l3 l4 μ = some z) : Met l yX4_makeProtocol (.code yX4_makeProtocol cX4_makeProtocol 5 (some .boolean) :: GW) rmX4_makeProtocol (Pw D cy b [.ref (b + l0), .int l1, .int l2, .ref (b + l3), .ref (b + l4)] μ) (Qw D cy b (some (.int z.1)) (z.2)) rmX4_makeProtocol.cells rmX4_makeProtocol.slots (fun q => b ≤ q) :=
  met_of (by decide) (Nat.le_of_ble_eq_true rfl) (fun X hB _ => (t_X4_makeProtocol_0 hB hf ⟨rfl, rfl⟩))
-- PulseRemote$Learner.conclude()Z
set_option maxHeartbeats 4000000 in
set_option maxRecDepth 100000 in
theorem t_X4_conclude_44 {X : BX} {D : va_G} {cy : Nat → ClassId} {b : Nat} {r : Option Value} {μ' : MS} (hB : BB X D cy b yX4_conclude cX4_conclude 1 (some .boolean) rmX4_conclude) {l0 : Nat} {μ : MS} {z : (Int32 × MS)} (hf : f_X4_conclude_44 l0 μ = some z) (hk : (fun z : Int32 × MS => r = some (.int z.1) ∧ μ' = z.2) z) : WW X D cy b r μ' 1 0 0 44 [(0, .ref (b + l0))] [] μ := by
  unfold f_X4_conclude_44 at hf
  refine r_aload_n hB 0 rfl (by decide +kernel : decode cX4_conclude 44 = .ok (.aload_n 0, 1)) rfl ?_
  refine r_gR hB cf4 0 (by decide) (own := "PulseRemote$Learner") rfl (Or.inl k_318) (by decide +kernel) (by decide +kernel : decode cX4_conclude 45 = .ok (.getfield 12, 3)) hf (fun x45 hf => ?_)
  refine r_gI hB cf0 2 (by decide) (own := "PulseRemote$Learner") rfl (Or.inr ⟨_, k_302⟩) (by decide +kernel) (by decide +kernel : decode cX4_conclude 48 = .ok (.getfield 58, 3)) hf (fun x48 hf => ?_)
  refine r_iconst hB (v := 2) (by decide +kernel : decode cX4_conclude 51 = .ok (.iconst 2, 1)) (by decide +kernel) ?_
  refine r_icmp_ne hB (tgt := 88) (by decide +kernel : decode cX4_conclude 52 = .ok (.if_icmp .ne 36, 3)) (by decide) hf (fun _ hf => ?_) (fun _ hf => ?_)
  · refine r_aload_n hB 0 rfl (by decide +kernel : decode cX4_conclude 55 = .ok (.aload_n 0, 1)) rfl ?_
    refine r_gR hB cf4 1 (by decide) (own := "PulseRemote$Learner") rfl (Or.inl k_319) (by decide +kernel) (by decide +kernel : decode cX4_conclude 56 = .ok (.getfield 18, 3)) hf (fun x56 hf => ?_)
    refine r_gI hB cf0 2 (by decide) (own := "PulseRemote$Learner") rfl (Or.inr ⟨_, k_302⟩) (by decide +kernel) (by decide +kernel : decode cX4_conclude 59 = .ok (.getfield 58, 3)) hf (fun x59 hf => ?_)
    refine r_iconst hB (v := 1) (by decide +kernel : decode cX4_conclude 62 = .ok (.iconst 1, 1)) (by decide +kernel) ?_
    refine r_icmp_ne hB (tgt := 88) (by decide +kernel : decode cX4_conclude 63 = .ok (.if_icmp .ne 25, 3)) (by decide) hf (fun _ hf => ?_) (fun _ hf => ?_)
    · refine r_aload_n hB 0 rfl (by decide +kernel : decode cX4_conclude 66 = .ok (.aload_n 0, 1)) rfl ?_
      refine r_iconst hB (v := 1) (by decide +kernel : decode cX4_conclude 67 = .ok (.iconst 1, 1)) (by decide +kernel) ?_
      refine r_aload_n hB 0 rfl (by decide +kernel : decode cX4_conclude 68 = .ok (.aload_n 0, 1)) rfl ?_
      refine r_gI hB cf4 2 (by decide) (own := "PulseRemote$Learner") rfl (Or.inl k_320) (by decide +kernel) (by decide +kernel : decode cX4_conclude 69 = .ok (.getfield 27, 3)) hf (fun x69 hf => ?_)
      refine r_iconst hB (v := 1) (by decide +kernel : decode cX4_conclude 72 = .ok (.iconst 1, 1)) (by decide +kernel) ?_
      refine r_isub hB (by decide +kernel : decode cX4_conclude 73 = .ok (.isub, 1)) ?_
      refine r_iconst hB (v := 2) (by decide +kernel : decode cX4_conclude 74 = .ok (.iconst 2, 1)) (by decide +kernel) ?_
      refine r_idiv hB (by decide +kernel : decode cX4_conclude 75 = .ok (.idiv, 1)) hf (fun v75 hf => ?_)
      refine r_aload_n hB 0 rfl (by decide +kernel : decode cX4_conclude 76 = .ok (.aload_n 0, 1)) rfl ?_
      refine r_gR hB cf4 1 (by decide) (own := "PulseRemote$Learner") rfl (Or.inl k_319) (by decide +kernel) (by decide +kernel : decode cX4_conclude 77 = .ok (.getfield 18, 3)) hf (fun x77 hf => ?_)
      refine r_aload_n hB 0 rfl (by decide +kernel : decode cX4_conclude 80 = .ok (.aload_n 0, 1)) rfl ?_
      refine r_gR hB cf4 0 (by decide) (own := "PulseRemote$Learner") rfl (Or.inl k_318) (by decide +kernel) (by decide +kernel : decode cX4_conclude 81 = .ok (.getfield 12, 3)) hf (fun x81 hf => ?_)
      refine r_cVi hB [.int 1, .int v75, .ref (b + x77), .ref (b + x81)] [] cf4 (own := "PulseRemote$Learner") rfl cmX4_makeProtocol imX4_makeProtocol (Or.inl k_827) (by decide) rfl rfl rfl (Nat.le_of_ble_eq_true rfl) (by decide +kernel : decode cX4_conclude 84 = .ok (.invokevirtual 61, 3)) (fun z hz => m_X4_makeProtocol _ _ _ _ hz) rfl hf (fun z84 hf => ?_)
      obtain ⟨hv, rfl⟩ := rZ_inv hf
      obtain ⟨rfl, rfl⟩ := hk
      exact r_zret hB hv (by decide +kernel : decode cX4_conclude 87 = .ok (.ireturn, 1))
    · refine r_iconst hB (v := 0) (by decide +kernel : decode cX4_conclude 88 = .ok (.iconst 0, 1)) (by decide +kernel) ?_
      obtain rfl := Option.some.inj hf
      obtain ⟨rfl, rfl⟩ := hk
      exact r_zret hB (Or.inl rfl) (by decide +kernel : decode cX4_conclude 89 = .ok (.ireturn, 1))
  · refine r_iconst hB (v := 0) (by decide +kernel : decode cX4_conclude 88 = .ok (.iconst 0, 1)) (by decide +kernel) ?_
    obtain rfl := Option.some.inj hf
    obtain ⟨rfl, rfl⟩ := hk
    exact r_zret hB (Or.inl rfl) (by decide +kernel : decode cX4_conclude 89 = .ok (.ireturn, 1))
set_option maxHeartbeats 4000000 in
set_option maxRecDepth 100000 in
theorem t_X4_conclude_0 {X : BX} {D : va_G} {cy : Nat → ClassId} {b : Nat} {r : Option Value} {μ' : MS} (hB : BB X D cy b yX4_conclude cX4_conclude 1 (some .boolean) rmX4_conclude) {l0 : Nat} {μ : MS} {z : (Int32 × MS)} (hf : f_X4_conclude l0 μ = some z) (hk : (fun z : Int32 × MS => r = some (.int z.1) ∧ μ' = z.2) z) : WW X D cy b r μ' 1 0 0 0 [(0, .ref (b + l0))] [] μ := by
  unfold f_X4_conclude at hf
  refine r_aload_n hB 0 rfl (by decide +kernel : decode cX4_conclude 0 = .ok (.aload_n 0, 1)) rfl ?_
  refine r_gR hB cf4 0 (by decide) (own := "PulseRemote$Learner") rfl (Or.inl k_318) (by decide +kernel) (by decide +kernel : decode cX4_conclude 1 = .ok (.getfield 12, 3)) hf (fun x1 hf => ?_)
  refine r_gI hB cf0 2 (by decide) (own := "PulseRemote$Learner") rfl (Or.inr ⟨_, k_302⟩) (by decide +kernel) (by decide +kernel : decode cX4_conclude 4 = .ok (.getfield 58, 3)) hf (fun x4 hf => ?_)
  refine r_iconst hB (v := 1) (by decide +kernel : decode cX4_conclude 7 = .ok (.iconst 1, 1)) (by decide +kernel) ?_
  refine r_icmp_ne hB (tgt := 44) (by decide +kernel : decode cX4_conclude 8 = .ok (.if_icmp .ne 36, 3)) (by decide) hf (fun _ hf => ?_) (fun _ hf => ?_)
  · refine r_aload_n hB 0 rfl (by decide +kernel : decode cX4_conclude 11 = .ok (.aload_n 0, 1)) rfl ?_
    refine r_gR hB cf4 1 (by decide) (own := "PulseRemote$Learner") rfl (Or.inl k_319) (by decide +kernel) (by decide +kernel : decode cX4_conclude 12 = .ok (.getfield 18, 3)) hf (fun x12 hf => ?_)
    refine r_gI hB cf0 2 (by decide) (own := "PulseRemote$Learner") rfl (Or.inr ⟨_, k_302⟩) (by decide +kernel) (by decide +kernel : decode cX4_conclude 15 = .ok (.getfield 58, 3)) hf (fun x15 hf => ?_)
    refine r_iconst hB (v := 2) (by decide +kernel : decode cX4_conclude 18 = .ok (.iconst 2, 1)) (by decide +kernel) ?_
    refine r_icmp_ne hB (tgt := 44) (by decide +kernel : decode cX4_conclude 19 = .ok (.if_icmp .ne 25, 3)) (by decide) hf (fun _ hf => ?_) (fun _ hf => ?_)
    · refine r_aload_n hB 0 rfl (by decide +kernel : decode cX4_conclude 22 = .ok (.aload_n 0, 1)) rfl ?_
      refine r_iconst hB (v := 0) (by decide +kernel : decode cX4_conclude 23 = .ok (.iconst 0, 1)) (by decide +kernel) ?_
      refine r_aload_n hB 0 rfl (by decide +kernel : decode cX4_conclude 24 = .ok (.aload_n 0, 1)) rfl ?_
      refine r_gI hB cf4 2 (by decide) (own := "PulseRemote$Learner") rfl (Or.inl k_320) (by decide +kernel) (by decide +kernel : decode cX4_conclude 25 = .ok (.getfield 27, 3)) hf (fun x25 hf => ?_)
      refine r_iconst hB (v := 3) (by decide +kernel : decode cX4_conclude 28 = .ok (.iconst 3, 1)) (by decide +kernel) ?_
      refine r_isub hB (by decide +kernel : decode cX4_conclude 29 = .ok (.isub, 1)) ?_
      refine r_iconst hB (v := 2) (by decide +kernel : decode cX4_conclude 30 = .ok (.iconst 2, 1)) (by decide +kernel) ?_
      refine r_idiv hB (by decide +kernel : decode cX4_conclude 31 = .ok (.idiv, 1)) hf (fun v31 hf => ?_)
      refine r_aload_n hB 0 rfl (by decide +kernel : decode cX4_conclude 32 = .ok (.aload_n 0, 1)) rfl ?_
      refine r_gR hB cf4 0 (by decide) (own := "PulseRemote$Learner") rfl (Or.inl k_318) (by decide +kernel) (by decide +kernel : decode cX4_conclude 33 = .ok (.getfield 12, 3)) hf (fun x33 hf => ?_)
      refine r_aload_n hB 0 rfl (by decide +kernel : decode cX4_conclude 36 = .ok (.aload_n 0, 1)) rfl ?_
      refine r_gR hB cf4 1 (by decide) (own := "PulseRemote$Learner") rfl (Or.inl k_319) (by decide +kernel) (by decide +kernel : decode cX4_conclude 37 = .ok (.getfield 18, 3)) hf (fun x37 hf => ?_)
      refine r_cVi hB [.int 0, .int v31, .ref (b + x33), .ref (b + x37)] [] cf4 (own := "PulseRemote$Learner") rfl cmX4_makeProtocol imX4_makeProtocol (Or.inl k_827) (by decide) rfl rfl rfl (Nat.le_of_ble_eq_true rfl) (by decide +kernel : decode cX4_conclude 40 = .ok (.invokevirtual 61, 3)) (fun z hz => m_X4_makeProtocol _ _ _ _ hz) rfl hf (fun z40 hf => ?_)
      obtain ⟨hv, rfl⟩ := rZ_inv hf
      obtain ⟨rfl, rfl⟩ := hk
      exact r_zret hB hv (by decide +kernel : decode cX4_conclude 43 = .ok (.ireturn, 1))
    · exact WW.sub [0] rfl (t_X4_conclude_44 hB hf hk)
  · exact WW.sub [0] rfl (t_X4_conclude_44 hB hf hk)
theorem m_X4_conclude (l : Launch) (D : va_G) (cy : Nat → ClassId) (b : Nat) {l0 : Nat} {μ : MS} {z : Int32 × MS} (hf : f_X4_conclude l0 μ = some z) : Met l yX4_conclude (.code yX4_conclude cX4_conclude 1 (some .boolean) :: GW) rmX4_conclude (Pw D cy b [.ref (b + l0)] μ) (Qw D cy b (some (.int z.1)) (z.2)) rmX4_conclude.cells rmX4_conclude.slots (fun q => b ≤ q) :=
  met_of (by decide) (Nat.le_of_ble_eq_true rfl) (fun X hB _ => (t_X4_conclude_0 hB hf ⟨rfl, rfl⟩))
-- PulseRemote.learn(I)I
set_option maxHeartbeats 4000000 in
set_option maxRecDepth 100000 in
theorem t_X11_learn_0 {X : BX} {D : va_G} {cy : Nat → ClassId} {b : Nat} {r : Option Value} {μ' : MS} (hB : BB X D cy b yX11_learn cX11_learn 3 (some .int) rmX11_learn) {l0 : Nat} {l1 : Int32} {μ : MS} {z : (Int32 × MS)} (hf : f_X11_learn l0 l1 μ = some z) (hk : (fun z : Int32 × MS => r = some (.int z.1) ∧ μ' = z.2) z) : WW X D cy b r μ' 3 0 0 0 [(0, .ref (b + l0)), (1, .int l1)] [] μ := by
  unfold f_X11_learn at hf
  refine r_iload_n hB 1 rfl (by decide +kernel : decode cX11_learn 0 = .ok (.iload_n 1, 1)) rfl ?_
  refine r_cSi hB [.int l1] [] (own := "PulseRemote") rfl cmX11_isSlot smX11_isSlot (Or.inl ⟨rfl, k_485⟩) (by decide) rfl rfl rfl (Nat.le_of_ble_eq_true rfl) (by decide +kernel : decode cX11_learn 1 = .ok (.invokestatic 156, 3)) (fun z hz => m_X11_isSlot _ _ _ _ hz) rfl hf (fun z1 hf => ?_)
  refine r_if_ne hB (tgt := 9) (by decide +kernel : decode cX11_learn 4 = .ok (.ifCond .ne 5, 3)) (by decide) hf (fun _ hf => ?_) (fun _ hf => ?_)
  · refine r_iconst hB (v := (-1)) (by decide +kernel : decode cX11_learn 7 = .ok (.iconst (-1), 1)) (by decide +kernel) ?_
    obtain rfl := Option.some.inj hf
    obtain ⟨rfl, rfl⟩ := hk
    exact r_iret hB (by decide +kernel : decode cX11_learn 8 = .ok (.ireturn, 1))
  · refine r_aload_n hB 0 rfl (by decide +kernel : decode cX11_learn 9 = .ok (.aload_n 0, 1)) rfl ?_
    refine r_gR hB cf11 7 (by decide) (own := "PulseRemote") rfl (Or.inl k_402) (by decide +kernel) (by decide +kernel : decode cX11_learn 10 = .ok (.getfield 48, 3)) hf (fun x10 hf => ?_)
    refine r_aload_n hB 0 rfl (by decide +kernel : decode cX11_learn 13 = .ok (.aload_n 0, 1)) rfl ?_
    refine r_gR hB cf11 0 (by decide) (own := "PulseRemote") rfl (Or.inl k_395) (by decide +kernel) (by decide +kernel : decode cX11_learn 14 = .ok (.getfield 12, 3)) hf (fun x14 hf => ?_)
    refine r_iload_n hB 1 rfl (by decide +kernel : decode cX11_learn 17 = .ok (.iload_n 1, 1)) rfl ?_
    refine r_cVr hB [.int l1] [.ref (b + x10)] cf7 (own := "PulseRemote") rfl cmX7_trainAt imX7_trainAt (Or.inl k_488) (by decide) rfl rfl rfl (Nat.le_of_ble_eq_true rfl) (by decide +kernel : decode cX11_learn 18 = .ok (.invokevirtual 159, 3)) (fun z hz => m_X7_trainAt _ _ _ _ hz) rfl hf (fun z18 hf => ?_)
    refine r_aload_n hB 0 rfl (by decide +kernel : decode cX11_learn 21 = .ok (.aload_n 0, 1)) rfl ?_
    refine r_gR hB cf11 0 (by decide) (own := "PulseRemote") rfl (Or.inl k_395) (by decide +kernel) (by decide +kernel : decode cX11_learn 22 = .ok (.getfield 12, 3)) hf (fun x22 hf => ?_)
    refine r_gI hB cf7 2 (by decide) (own := "PulseRemote") rfl (Or.inr ⟨_, k_154⟩) (by decide +kernel) (by decide +kernel : decode cX11_learn 25 = .ok (.getfield 163, 3)) hf (fun x25 hf => ?_)
    refine r_cVv hB [.ref (b + z18.1), .int x25] [] cf3 (own := "PulseRemote") rfl cmX3_split imX3_split (Or.inl k_493) (by decide) rfl rfl rfl (Nat.le_of_ble_eq_true rfl) (by decide +kernel : decode cX11_learn 28 = .ok (.invokevirtual 166, 3)) (fun z hz => m_X3_split _ _ _ _ hz) rfl hf (fun z28 hf => ?_)
    refine r_aload_n hB 0 rfl (by decide +kernel : decode cX11_learn 31 = .ok (.aload_n 0, 1)) rfl ?_
    refine r_gR hB cf11 10 (by decide) (own := "PulseRemote") rfl (Or.inl k_405) (by decide +kernel) (by decide +kernel : decode cX11_learn 32 = .ok (.getfield 69, 3)) hf (fun x32 hf => ?_)
    refine r_aload_n hB 0 rfl (by decide +kernel : decode cX11_learn 35 = .ok (.aload_n 0, 1)) rfl ?_
    refine r_gR hB cf11 7 (by decide) (own := "PulseRemote") rfl (Or.inl k_402) (by decide +kernel) (by decide +kernel : decode cX11_learn 36 = .ok (.getfield 48, 3)) hf (fun x36 hf => ?_)
    refine r_cVi hB [.ref (b + x36)] [] cf4 (own := "PulseRemote") rfl cmX4_gather imX4_gather (Or.inl k_792) (by decide) rfl rfl rfl (Nat.le_of_ble_eq_true rfl) (by decide +kernel : decode cX11_learn 39 = .ok (.invokevirtual 170, 3)) (fun z hz => m_X4_gather _ _ _ _ hz) rfl hf (fun z39 hf => ?_)
    refine r_if_eq hB (tgt := 55) (by decide +kernel : decode cX11_learn 42 = .ok (.ifCond .eq 13, 3)) (by decide) hf (fun _ hf => ?_) (fun _ hf => ?_)
    · refine r_bipush hB (v := (-2)) (by decide +kernel : decode cX11_learn 55 = .ok (.bipush (-2), 2)) (by decide +kernel) ?_
      obtain rfl := Option.some.inj hf
      obtain ⟨rfl, rfl⟩ := hk
      exact r_iret hB (by decide +kernel : decode cX11_learn 57 = .ok (.ireturn, 1))
    · refine r_aload_n hB 0 rfl (by decide +kernel : decode cX11_learn 45 = .ok (.aload_n 0, 1)) rfl ?_
      refine r_gR hB cf11 10 (by decide) (own := "PulseRemote") rfl (Or.inl k_405) (by decide +kernel) (by decide +kernel : decode cX11_learn 46 = .ok (.getfield 69, 3)) hf (fun x46 hf => ?_)
      refine r_cVi hB [] [] cf4 (own := "PulseRemote") rfl cmX4_conclude imX4_conclude (Or.inl k_823) (by decide) rfl rfl rfl (Nat.le_of_ble_eq_true rfl) (by decide +kernel : decode cX11_learn 49 = .ok (.invokevirtual 174, 3)) (fun z hz => m_X4_conclude _ _ _ _ hz) rfl hf (fun z49 hf => ?_)
      refine r_if_ne hB (tgt := 58) (by decide +kernel : decode cX11_learn 52 = .ok (.ifCond .ne 6, 3)) (by decide) hf (fun _ hf => ?_) (fun _ hf => ?_)
      · refine r_bipush hB (v := (-2)) (by decide +kernel : decode cX11_learn 55 = .ok (.bipush (-2), 2)) (by decide +kernel) ?_
        obtain rfl := Option.some.inj hf
        obtain ⟨rfl, rfl⟩ := hk
        exact r_iret hB (by decide +kernel : decode cX11_learn 57 = .ok (.ireturn, 1))
      · refine r_aload_n hB 0 rfl (by decide +kernel : decode cX11_learn 58 = .ok (.aload_n 0, 1)) rfl ?_
        refine r_gR hB cf11 0 (by decide) (own := "PulseRemote") rfl (Or.inl k_395) (by decide +kernel) (by decide +kernel : decode cX11_learn 59 = .ok (.getfield 12, 3)) hf (fun x59 hf => ?_)
        refine r_gR hB cf7 0 (by decide) (own := "PulseRemote") rfl (Or.inr ⟨_, k_150⟩) (by decide +kernel) (by decide +kernel : decode cX11_learn 62 = .ok (.getfield 84, 3)) hf (fun x62 hf => ?_)
        refine r_cVi hB [] [] cf8 (own := "PulseRemote") rfl cmX8_protocolsFull imX8_protocolsFull (Or.inl k_749) (by decide) rfl rfl rfl (Nat.le_of_ble_eq_true rfl) (by decide +kernel : decode cX11_learn 65 = .ok (.invokevirtual 87, 3)) (fun z hz => m_X8_protocolsFull _ _ _ _ hz) rfl hf (fun z65 hf => ?_)
        refine r_if_eq hB (tgt := 74) (by decide +kernel : decode cX11_learn 68 = .ok (.ifCond .eq 6, 3)) (by decide) hf (fun _ hf => ?_) (fun _ hf => ?_)
        · refine r_aload_n hB 0 rfl (by decide +kernel : decode cX11_learn 74 = .ok (.aload_n 0, 1)) rfl ?_
          refine r_cVv hB [] [] cf11 (own := "PulseRemote") rfl cmX11_saveState imX11_saveState (Or.inl k_443) (by decide) rfl rfl rfl (Nat.le_of_ble_eq_true rfl) (by decide +kernel : decode cX11_learn 75 = .ok (.invokevirtual 91, 3)) (fun z hz => m_X11_saveState _ _ _ _ hz) rfl hf (fun z75 hf => ?_)
          refine r_aload_n hB 0 rfl (by decide +kernel : decode cX11_learn 78 = .ok (.aload_n 0, 1)) rfl ?_
          refine r_gR hB cf11 0 (by decide) (own := "PulseRemote") rfl (Or.inl k_395) (by decide +kernel) (by decide +kernel : decode cX11_learn 79 = .ok (.getfield 12, 3)) hf (fun x79 hf => ?_)
          refine r_gR hB cf7 0 (by decide) (own := "PulseRemote") rfl (Or.inr ⟨_, k_150⟩) (by decide +kernel) (by decide +kernel : decode cX11_learn 82 = .ok (.getfield 84, 3)) hf (fun x82 hf => ?_)
          refine r_aload_n hB 0 rfl (by decide +kernel : decode cX11_learn 85 = .ok (.aload_n 0, 1)) rfl ?_
          refine r_gR hB cf11 10 (by decide) (own := "PulseRemote") rfl (Or.inl k_405) (by decide +kernel) (by decide +kernel : decode cX11_learn 86 = .ok (.getfield 69, 3)) hf (fun x86 hf => ?_)
          refine r_gI hB cf4 5 (by decide) (own := "PulseRemote") rfl (Or.inr ⟨_, k_326⟩) (by decide +kernel) (by decide +kernel : decode cX11_learn 89 = .ok (.getfield 177, 3)) hf (fun x89 hf => ?_)
          refine r_aload_n hB 0 rfl (by decide +kernel : decode cX11_learn 92 = .ok (.aload_n 0, 1)) rfl ?_
          refine r_gR hB cf11 10 (by decide) (own := "PulseRemote") rfl (Or.inl k_405) (by decide +kernel) (by decide +kernel : decode cX11_learn 93 = .ok (.getfield 69, 3)) hf (fun x93 hf => ?_)
          refine r_gI hB cf4 6 (by decide) (own := "PulseRemote") rfl (Or.inr ⟨_, k_328⟩) (by decide +kernel) (by decide +kernel : decode cX11_learn 96 = .ok (.getfield 178, 3)) hf (fun x96 hf => ?_)
          refine r_iconst hB (v := 0) (by decide +kernel : decode cX11_learn 99 = .ok (.iconst 0, 1)) (by decide +kernel) ?_
          refine r_iconst hB (v := 0) (by decide +kernel : decode cX11_learn 100 = .ok (.iconst 0, 1)) (by decide +kernel) ?_
          refine r_cVi hB [.int x89, .int x96, .int 0, .int 0] [] cf8 (own := "PulseRemote") rfl cmX8_newProtocol imX8_newProtocol (Or.inl k_753) (by decide) rfl rfl rfl (Nat.le_of_ble_eq_true rfl) (by decide +kernel : decode cX11_learn 101 = .ok (.invokevirtual 94, 3)) (fun z hz => m_X8_newProtocol _ _ _ _ hz) rfl hf (fun z101 hf => ?_)
          refine r_istore_n hB (by decide +kernel : decode cX11_learn 104 = .ok (.istore_n 2, 1)) rfl (by decide) rfl ?_
          refine ww_lv (lv' := [(2, .int z101.1), (0, .ref (b + l0)), (1, .int l1)]) rfl ?_
          refine r_aload_n hB 1 rfl (by decide +kernel : decode cX11_learn 105 = .ok (.aload_n 0, 1)) rfl ?_
          refine r_gR hB cf11 0 (by decide) (own := "PulseRemote") rfl (Or.inl k_395) (by decide +kernel) (by decide +kernel : decode cX11_learn 106 = .ok (.getfield 12, 3)) hf (fun x106 hf => ?_)
          refine r_gR hB cf7 0 (by decide) (own := "PulseRemote") rfl (Or.inr ⟨_, k_150⟩) (by decide +kernel) (by decide +kernel : decode cX11_learn 109 = .ok (.getfield 84, 3)) hf (fun x109 hf => ?_)
          refine r_iload_n hB 0 rfl (by decide +kernel : decode cX11_learn 112 = .ok (.iload_n 2, 1)) rfl ?_
          refine r_cVr hB [.int z101.1] [] cf8 (own := "PulseRemote") rfl cmX8_protocolAt imX8_protocolAt (Or.inl k_588) (by decide) rfl rfl rfl (Nat.le_of_ble_eq_true rfl) (by decide +kernel : decode cX11_learn 113 = .ok (.invokevirtual 102, 3)) (fun z hz => m_X8_protocolAt _ _ _ _ hz) rfl hf (fun z113 hf => ?_)
          refine r_aload_n hB 1 rfl (by decide +kernel : decode cX11_learn 116 = .ok (.aload_n 0, 1)) rfl ?_
          refine r_gR hB cf11 10 (by decide) (own := "PulseRemote") rfl (Or.inl k_405) (by decide +kernel) (by decide +kernel : decode cX11_learn 117 = .ok (.getfield 69, 3)) hf (fun x117 hf => ?_)
          refine r_gI hB cf4 3 (by decide) (own := "PulseRemote") rfl (Or.inr ⟨_, k_322⟩) (by decide +kernel) (by decide +kernel : decode cX11_learn 120 = .ok (.getfield 179, 3)) hf (fun x120 hf => ?_)
          refine r_aload_n hB 1 rfl (by decide +kernel : decode cX11_learn 123 = .ok (.aload_n 0, 1)) rfl ?_
          refine r_gR hB cf11 10 (by decide) (own := "PulseRemote") rfl (Or.inl k_405) (by decide +kernel) (by decide +kernel : decode cX11_learn 124 = .ok (.getfield 69, 3)) hf (fun x124 hf => ?_)
          refine r_gI hB cf4 4 (by decide) (own := "PulseRemote") rfl (Or.inr ⟨_, k_324⟩) (by decide +kernel) (by decide +kernel : decode cX11_learn 127 = .ok (.getfield 180, 3)) hf (fun x127 hf => ?_)
          refine r_aload_n hB 1 rfl (by decide +kernel : decode cX11_learn 130 = .ok (.aload_n 0, 1)) rfl ?_
          refine r_gR hB cf11 10 (by decide) (own := "PulseRemote") rfl (Or.inl k_405) (by decide +kernel) (by decide +kernel : decode cX11_learn 131 = .ok (.getfield 69, 3)) hf (fun x131 hf => ?_)
          refine r_gI hB cf4 7 (by decide) (own := "PulseRemote") rfl (Or.inr ⟨_, k_330⟩) (by decide +kernel) (by decide +kernel : decode cX11_learn 134 = .ok (.getfield 181, 3)) hf (fun x134 hf => ?_)
          refine r_aload_n hB 1 rfl (by decide +kernel : decode cX11_learn 137 = .ok (.aload_n 0, 1)) rfl ?_
          refine r_gR hB cf11 10 (by decide) (own := "PulseRemote") rfl (Or.inl k_405) (by decide +kernel) (by decide +kernel : decode cX11_learn 138 = .ok (.getfield 69, 3)) hf (fun x138 hf => ?_)
          refine r_gI hB cf4 8 (by decide) (own := "PulseRemote") rfl (Or.inr ⟨_, k_332⟩) (by decide +kernel) (by decide +kernel : decode cX11_learn 141 = .ok (.getfield 182, 3)) hf (fun x141 hf => ?_)
          refine r_aload_n hB 1 rfl (by decide +kernel : decode cX11_learn 144 = .ok (.aload_n 0, 1)) rfl ?_
          refine r_gR hB cf11 10 (by decide) (own := "PulseRemote") rfl (Or.inl k_405) (by decide +kernel) (by decide +kernel : decode cX11_learn 145 = .ok (.getfield 69, 3)) hf (fun x145 hf => ?_)
          refine r_gI hB cf4 9 (by decide) (own := "PulseRemote") rfl (Or.inr ⟨_, k_334⟩) (by decide +kernel) (by decide +kernel : decode cX11_learn 148 = .ok (.getfield 183, 3)) hf (fun x148 hf => ?_)
          refine r_cVv hB [.int x120, .int x127, .int x134, .int x141, .int x148] [] cf6 (own := "PulseRemote") rfl cmX6_useLengths imX6_useLengths (Or.inl k_769) (by decide) rfl rfl rfl (Nat.le_of_ble_eq_true rfl) (by decide +kernel : decode cX11_learn 151 = .ok (.invokevirtual 119, 3)) (fun z hz => m_X6_useLengths _ _ _ _ hz) rfl hf (fun z151 hf => ?_)
          refine r_iload_n hB 0 rfl (by decide +kernel : decode cX11_learn 154 = .ok (.iload_n 2, 1)) rfl ?_
          obtain rfl := Option.some.inj hf
          obtain ⟨rfl, rfl⟩ := hk
          exact r_iret hB (by decide +kernel : decode cX11_learn 155 = .ok (.ireturn, 1))
        · refine r_bipush hB (v := (-3)) (by decide +kernel : decode cX11_learn 71 = .ok (.bipush (-3), 2)) (by decide +kernel) ?_
          obtain rfl := Option.some.inj hf
          obtain ⟨rfl, rfl⟩ := hk
          exact r_iret hB (by decide +kernel : decode cX11_learn 73 = .ok (.ireturn, 1))
theorem m_X11_learn (l : Launch) (D : va_G) (cy : Nat → ClassId) (b : Nat) {l0 : Nat} {l1 : Int32} {μ : MS} {z : Int32 × MS} (hf : f_X11_learn l0 l1 μ = some z) : Met l yX11_learn (.code yX11_learn cX11_learn 3 (some .int) :: GW) rmX11_learn (Pw D cy b [.ref (b + l0), .int l1] μ) (Qw D cy b (some (.int z.1)) (z.2)) rmX11_learn.cells rmX11_learn.slots (fun q => b ≤ q) :=
  met_of (by decide) (Nat.le_of_ble_eq_true rfl) (fun X hB _ => (t_X11_learn_0 hB hf ⟨rfl, rfl⟩))
-- PulseRemote$Protocol.hasCode(I)Z
set_option maxHeartbeats 4000000 in
set_option maxRecDepth 100000 in
theorem t_X6_hasCode_0 {X : BX} {D : va_G} {cy : Nat → ClassId} {b : Nat} {r : Option Value} {μ' : MS} (hB : BB X D cy b yX6_hasCode cX6_hasCode 2 (some .boolean) rmX6_hasCode) {l0 : Nat} {l1 : Int32} {μ : MS} {z : (Int32 × MS)} (hf : f_X6_hasCode l0 l1 μ = some z) (hk : (fun z : Int32 × MS => r = some (.int z.1) ∧ μ' = z.2) z) : WW X D cy b r μ' 2 0 0 0 [(0, .ref (b + l0)), (1, .int l1)] [] μ := by
  unfold f_X6_hasCode at hf
  refine r_iload_n hB 1 rfl (by decide +kernel : decode cX6_hasCode 0 = .ok (.iload_n 1, 1)) rfl ?_
  refine r_if_lt hB (tgt := 18) (by decide +kernel : decode cX6_hasCode 1 = .ok (.ifCond .lt 17, 3)) (by decide) hf (fun _ hf => ?_) (fun _ hf => ?_)
  · refine r_iconst hB (v := 0) (by decide +kernel : decode cX6_hasCode 18 = .ok (.iconst 0, 1)) (by decide +kernel) ?_
    obtain rfl := Option.some.inj hf
    obtain ⟨rfl, rfl⟩ := hk
    exact r_zret hB (Or.inl rfl) (by decide +kernel : decode cX6_hasCode 19 = .ok (.ireturn, 1))
  · refine r_iload_n hB 1 rfl (by decide +kernel : decode cX6_hasCode 4 = .ok (.iload_n 1, 1)) rfl ?_
    refine r_iconst hB (v := 1) (by decide +kernel : decode cX6_hasCode 5 = .ok (.iconst 1, 1)) (by decide +kernel) ?_
    refine r_aload_n hB 0 rfl (by decide +kernel : decode cX6_hasCode 6 = .ok (.aload_n 0, 1)) rfl ?_
    refine r_gI hB cf6 6 (by decide) (own := "PulseRemote$Protocol") rfl (Or.inl k_81) (by decide +kernel) (by decide +kernel : decode cX6_hasCode 7 = .ok (.getfield 15, 3)) hf (fun x7 hf => ?_)
    refine r_ishl hB (by decide +kernel : decode cX6_hasCode 10 = .ok (.ishl, 1)) ?_
    refine r_icmp_ge hB (tgt := 18) (by decide +kernel : decode cX6_hasCode 11 = .ok (.if_icmp .ge 7, 3)) (by decide) hf (fun _ hf => ?_) (fun _ hf => ?_)
    · refine r_iconst hB (v := 0) (by decide +kernel : decode cX6_hasCode 18 = .ok (.iconst 0, 1)) (by decide +kernel) ?_
      obtain rfl := Option.some.inj hf
      obtain ⟨rfl, rfl⟩ := hk
      exact r_zret hB (Or.inl rfl) (by decide +kernel : decode cX6_hasCode 19 = .ok (.ireturn, 1))
    · refine r_iconst hB (v := 1) (by decide +kernel : decode cX6_hasCode 14 = .ok (.iconst 1, 1)) (by decide +kernel) ?_
      refine r_goto hB (tgt := 19) (by decide +kernel : decode cX6_hasCode 15 = .ok (.goto 4, 3)) (by decide) ?_
      obtain rfl := Option.some.inj hf
      obtain ⟨rfl, rfl⟩ := hk
      exact r_zret hB (Or.inr rfl) (by decide +kernel : decode cX6_hasCode 19 = .ok (.ireturn, 1))
theorem m_X6_hasCode (l : Launch) (D : va_G) (cy : Nat → ClassId) (b : Nat) {l0 : Nat} {l1 : Int32} {μ : MS} {z : Int32 × MS} (hf : f_X6_hasCode l0 l1 μ = some z) : Met l yX6_hasCode (.code yX6_hasCode cX6_hasCode 2 (some .boolean) :: GW) rmX6_hasCode (Pw D cy b [.ref (b + l0), .int l1] μ) (Qw D cy b (some (.int z.1)) (z.2)) rmX6_hasCode.cells rmX6_hasCode.slots (fun q => b ≤ q) :=
  met_of (by decide) (Nat.le_of_ble_eq_true rfl) (fun X hB _ => (t_X6_hasCode_0 hB hf ⟨rfl, rfl⟩))
-- PulseRemote$Protocol.maskAt(I)I
set_option maxHeartbeats 4000000 in
set_option maxRecDepth 100000 in
theorem t_X6_maskAt_0 {X : BX} {D : va_G} {cy : Nat → ClassId} {b : Nat} {r : Option Value} {μ' : MS} (hB : BB X D cy b yX6_maskAt cX6_maskAt 2 (some .int) rmX6_maskAt) {l0 : Nat} {l1 : Int32} {μ : MS} {z : (Int32 × MS)} (hf : f_X6_maskAt l0 l1 μ = some z) (hk : (fun z : Int32 × MS => r = some (.int z.1) ∧ μ' = z.2) z) : WW X D cy b r μ' 2 0 0 0 [(0, .ref (b + l0)), (1, .int l1)] [] μ := by
  unfold f_X6_maskAt at hf
  refine r_aload_n hB 0 rfl (by decide +kernel : decode cX6_maskAt 0 = .ok (.aload_n 0, 1)) rfl ?_
  refine r_gI hB cf6 7 (by decide) (own := "PulseRemote$Protocol") rfl (Or.inl k_84) (by decide +kernel) (by decide +kernel : decode cX6_maskAt 1 = .ok (.getfield 18, 3)) hf (fun x1 hf => ?_)
  refine r_iconst hB (v := 1) (by decide +kernel : decode cX6_maskAt 4 = .ok (.iconst 1, 1)) (by decide +kernel) ?_
  refine r_icmp_ne hB (tgt := 14) (by decide +kernel : decode cX6_maskAt 5 = .ok (.if_icmp .ne 9, 3)) (by decide) hf (fun _ hf => ?_) (fun _ hf => ?_)
  · refine r_iconst hB (v := 1) (by decide +kernel : decode cX6_maskAt 8 = .ok (.iconst 1, 1)) (by decide +kernel) ?_
    refine r_iload_n hB 1 rfl (by decide +kernel : decode cX6_maskAt 9 = .ok (.iload_n 1, 1)) rfl ?_
    refine r_ishl hB (by decide +kernel : decode cX6_maskAt 10 = .ok (.ishl, 1)) ?_
    refine r_goto hB (tgt := 24) (by decide +kernel : decode cX6_maskAt 11 = .ok (.goto 13, 3)) (by decide) ?_
    obtain rfl := Option.some.inj hf
    obtain ⟨rfl, rfl⟩ := hk
    exact r_iret hB (by decide +kernel : decode cX6_maskAt 24 = .ok (.ireturn, 1))
  · refine r_iconst hB (v := 1) (by decide +kernel : decode cX6_maskAt 14 = .ok (.iconst 1, 1)) (by decide +kernel) ?_
    refine r_aload_n hB 0 rfl (by decide +kernel : decode cX6_maskAt 15 = .ok (.aload_n 0, 1)) rfl ?_
    refine r_gI hB cf6 6 (by decide) (own := "PulseRemote$Protocol") rfl (Or.inl k_81) (by decide +kernel) (by decide +kernel : decode cX6_maskAt 16 = .ok (.getfield 15, 3)) hf (fun x16 hf => ?_)
    refine r_iconst hB (v := 1) (by decide +kernel : decode cX6_maskAt 19 = .ok (.iconst 1, 1)) (by decide +kernel) ?_
    refine r_isub hB (by decide +kernel : decode cX6_maskAt 20 = .ok (.isub, 1)) ?_
    refine r_iload_n hB 1 rfl (by decide +kernel : decode cX6_maskAt 21 = .ok (.iload_n 1, 1)) rfl ?_
    refine r_isub hB (by decide +kernel : decode cX6_maskAt 22 = .ok (.isub, 1)) ?_
    refine r_ishl hB (by decide +kernel : decode cX6_maskAt 23 = .ok (.ishl, 1)) ?_
    obtain rfl := Option.some.inj hf
    obtain ⟨rfl, rfl⟩ := hk
    exact r_iret hB (by decide +kernel : decode cX6_maskAt 24 = .ok (.ireturn, 1))
theorem m_X6_maskAt (l : Launch) (D : va_G) (cy : Nat → ClassId) (b : Nat) {l0 : Nat} {l1 : Int32} {μ : MS} {z : Int32 × MS} (hf : f_X6_maskAt l0 l1 μ = some z) : Met l yX6_maskAt (.code yX6_maskAt cX6_maskAt 2 (some .int) :: GW) rmX6_maskAt (Pw D cy b [.ref (b + l0), .int l1] μ) (Qw D cy b (some (.int z.1)) (z.2)) rmX6_maskAt.cells rmX6_maskAt.slots (fun q => b ≤ q) :=
  met_of (by decide) (Nat.le_of_ble_eq_true rfl) (fun X hB _ => (t_X6_maskAt_0 hB hf ⟨rfl, rfl⟩))
-- PulseRemote$Protocol.identityOf(I)I
set_option maxHeartbeats 4000000 in
set_option maxRecDepth 100000 in
theorem t_X6_identityOf_0 {X : BX} {D : va_G} {cy : Nat → ClassId} {b : Nat} {r : Option Value} {μ' : MS} (hB : BB X D cy b yX6_identityOf cX6_identityOf 2 (some .int) rmX6_identityOf) {l0 : Nat} {l1 : Int32} {μ : MS} {z : (Int32 × MS)} (hf : f_X6_identityOf l0 l1 μ = some z) (hk : (fun z : Int32 × MS => r = some (.int z.1) ∧ μ' = z.2) z) : WW X D cy b r μ' 2 0 0 0 [(0, .ref (b + l0)), (1, .int l1)] [] μ := by
  unfold f_X6_identityOf at hf
  refine r_aload_n hB 0 rfl (by decide +kernel : decode cX6_identityOf 0 = .ok (.aload_n 0, 1)) rfl ?_
  refine r_gI hB cf6 8 (by decide) (own := "PulseRemote$Protocol") rfl (Or.inl k_86) (by decide +kernel) (by decide +kernel : decode cX6_identityOf 1 = .ok (.getfield 21, 3)) hf (fun x1 hf => ?_)
  refine r_iconst hB (v := 2) (by decide +kernel : decode cX6_identityOf 4 = .ok (.iconst 2, 1)) (by decide +kernel) ?_
  refine r_icmp_ne hB (tgt := 20) (by decide +kernel : decode cX6_identityOf 5 = .ok (.if_icmp .ne 15, 3)) (by decide) hf (fun _ hf => ?_) (fun _ hf => ?_)
  · refine r_iload_n hB 1 rfl (by decide +kernel : decode cX6_identityOf 8 = .ok (.iload_n 1, 1)) rfl ?_
    refine r_aload_n hB 0 rfl (by decide +kernel : decode cX6_identityOf 9 = .ok (.aload_n 0, 1)) rfl ?_
    refine r_iconst hB (v := 0) (by decide +kernel : decode cX6_identityOf 10 = .ok (.iconst 0, 1)) (by decide +kernel) ?_
    refine r_cVi hB [.int 0] [.int l1] cf6 (own := "PulseRemote$Protocol") rfl cmX6_maskAt imX6_maskAt (Or.inl k_597) (by decide) rfl rfl rfl (Nat.le_of_ble_eq_true rfl) (by decide +kernel : decode cX6_identityOf 11 = .ok (.invokevirtual 47, 3)) (fun z hz => m_X6_maskAt _ _ _ _ hz) rfl hf (fun z11 hf => ?_)
    refine r_iconst hB (v := (-1)) (by decide +kernel : decode cX6_identityOf 14 = .ok (.iconst (-1), 1)) (by decide +kernel) ?_
    refine r_ixor hB (by decide +kernel : decode cX6_identityOf 15 = .ok (.ixor, 1)) ?_
    refine r_iand hB (by decide +kernel : decode cX6_identityOf 16 = .ok (.iand, 1)) ?_
    refine r_goto hB (tgt := 21) (by decide +kernel : decode cX6_identityOf 17 = .ok (.goto 4, 3)) (by decide) ?_
    obtain rfl := Option.some.inj hf
    obtain ⟨rfl, rfl⟩ := hk
    exact r_iret hB (by decide +kernel : decode cX6_identityOf 21 = .ok (.ireturn, 1))
  · refine r_iload_n hB 1 rfl (by decide +kernel : decode cX6_identityOf 20 = .ok (.iload_n 1, 1)) rfl ?_
    obtain rfl := Option.some.inj hf
    obtain ⟨rfl, rfl⟩ := hk
    exact r_iret hB (by decide +kernel : decode cX6_identityOf 21 = .ok (.ireturn, 1))
theorem m_X6_identityOf (l : Launch) (D : va_G) (cy : Nat → ClassId) (b : Nat) {l0 : Nat} {l1 : Int32} {μ : MS} {z : Int32 × MS} (hf : f_X6_identityOf l0 l1 μ = some z) : Met l yX6_identityOf (.code yX6_identityOf cX6_identityOf 2 (some .int) :: GW) rmX6_identityOf (Pw D cy b [.ref (b + l0), .int l1] μ) (Qw D cy b (some (.int z.1)) (z.2)) rmX6_identityOf.cells rmX6_identityOf.slots (fun q => b ≤ q) :=
  met_of (by decide) (Nat.le_of_ble_eq_true rfl) (fun X hB _ => (t_X6_identityOf_0 hB hf ⟨rfl, rfl⟩))
-- PulseRemote$Table.hasButton(I)Z
set_option maxHeartbeats 4000000 in
set_option maxRecDepth 100000 in
theorem t_X8_hasButton_0 {X : BX} {D : va_G} {cy : Nat → ClassId} {b : Nat} {r : Option Value} {μ' : MS} (hB : BB X D cy b yX8_hasButton cX8_hasButton 2 (some .boolean) rmX8_hasButton) {l0 : Nat} {l1 : Int32} {μ : MS} {z : (Int32 × MS)} (hf : f_X8_hasButton l0 l1 μ = some z) (hk : (fun z : Int32 × MS => r = some (.int z.1) ∧ μ' = z.2) z) : WW X D cy b r μ' 2 0 0 0 [(0, .ref (b + l0)), (1, .int l1)] [] μ := by
  unfold f_X8_hasButton at hf
  refine r_iload_n hB 1 rfl (by decide +kernel : decode cX8_hasButton 0 = .ok (.iload_n 1, 1)) rfl ?_
  refine r_if_lt hB (tgt := 22) (by decide +kernel : decode cX8_hasButton 1 = .ok (.ifCond .lt 21, 3)) (by decide) hf (fun _ hf => ?_) (fun _ hf => ?_)
  · refine r_iconst hB (v := 0) (by decide +kernel : decode cX8_hasButton 22 = .ok (.iconst 0, 1)) (by decide +kernel) ?_
    obtain rfl := Option.some.inj hf
    obtain ⟨rfl, rfl⟩ := hk
    exact r_zret hB (Or.inl rfl) (by decide +kernel : decode cX8_hasButton 23 = .ok (.ireturn, 1))
  · refine r_iload_n hB 1 rfl (by decide +kernel : decode cX8_hasButton 4 = .ok (.iload_n 1, 1)) rfl ?_
    refine r_aload_n hB 0 rfl (by decide +kernel : decode cX8_hasButton 5 = .ok (.aload_n 0, 1)) rfl ?_
    refine r_gI hB cf8 4 (by decide) (own := "PulseRemote$Table") rfl (Or.inl k_116) (by decide +kernel) (by decide +kernel : decode cX8_hasButton 6 = .ok (.getfield 39, 3)) hf (fun x6 hf => ?_)
    refine r_icmp_ge hB (tgt := 22) (by decide +kernel : decode cX8_hasButton 9 = .ok (.if_icmp .ge 13, 3)) (by decide) hf (fun _ hf => ?_) (fun _ hf => ?_)
    · refine r_iconst hB (v := 0) (by decide +kernel : decode cX8_hasButton 22 = .ok (.iconst 0, 1)) (by decide +kernel) ?_
      obtain rfl := Option.some.inj hf
      obtain ⟨rfl, rfl⟩ := hk
      exact r_zret hB (Or.inl rfl) (by decide +kernel : decode cX8_hasButton 23 = .ok (.ireturn, 1))
    · refine r_iload_n hB 1 rfl (by decide +kernel : decode cX8_hasButton 12 = .ok (.iload_n 1, 1)) rfl ?_
      refine r_bipush hB (v := 12) (by decide +kernel : decode cX8_hasButton 13 = .ok (.bipush 12, 2)) (by decide +kernel) ?_
      refine r_icmp_ge hB (tgt := 22) (by decide +kernel : decode cX8_hasButton 15 = .ok (.if_icmp .ge 7, 3)) (by decide) hf (fun _ hf => ?_) (fun _ hf => ?_)
      · refine r_iconst hB (v := 0) (by decide +kernel : decode cX8_hasButton 22 = .ok (.iconst 0, 1)) (by decide +kernel) ?_
        obtain rfl := Option.some.inj hf
        obtain ⟨rfl, rfl⟩ := hk
        exact r_zret hB (Or.inl rfl) (by decide +kernel : decode cX8_hasButton 23 = .ok (.ireturn, 1))
      · refine r_iconst hB (v := 1) (by decide +kernel : decode cX8_hasButton 18 = .ok (.iconst 1, 1)) (by decide +kernel) ?_
        refine r_goto hB (tgt := 23) (by decide +kernel : decode cX8_hasButton 19 = .ok (.goto 4, 3)) (by decide) ?_
        obtain rfl := Option.some.inj hf
        obtain ⟨rfl, rfl⟩ := hk
        exact r_zret hB (Or.inr rfl) (by decide +kernel : decode cX8_hasButton 23 = .ok (.ireturn, 1))
theorem m_X8_hasButton (l : Launch) (D : va_G) (cy : Nat → ClassId) (b : Nat) {l0 : Nat} {l1 : Int32} {μ : MS} {z : Int32 × MS} (hf : f_X8_hasButton l0 l1 μ = some z) : Met l yX8_hasButton (.code yX8_hasButton cX8_hasButton 2 (some .boolean) :: GW) rmX8_hasButton (Pw D cy b [.ref (b + l0), .int l1] μ) (Qw D cy b (some (.int z.1)) (z.2)) rmX8_hasButton.cells rmX8_hasButton.slots (fun q => b ≤ q) :=
  met_of (by decide) (Nat.le_of_ble_eq_true rfl) (fun X hB _ => (t_X8_hasButton_0 hB hf ⟨rfl, rfl⟩))
