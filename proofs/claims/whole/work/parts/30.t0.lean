/-! printed by wip/whole/gen.py -/
-- PulseRemote.inRange(III)Z
set_option maxHeartbeats 4000000 in
set_option maxRecDepth 100000 in
theorem t_X11_inRange_0 {X : BX} {D : va_G} {cy : Nat → ClassId} {b : Nat} {r : Option Value} {μ' : MS} (hB : BB X D cy b yX11_inRange cX11_inRange 3 (some .boolean) rmX11_inRange) {l0 : Int32} {l1 : Int32} {l2 : Int32} {μ : MS} {z : (Int32 × MS)} (hf : f_X11_inRange l0 l1 l2 μ = some z) (hk : (fun z : Int32 × MS => r = some (.int z.1) ∧ μ' = z.2) z) : WW X D cy b r μ' 3 0 0 0 [(0, .int l0), (1, .int l1), (2, .int l2)] [] μ := by
  unfold f_X11_inRange at hf
  refine r_iload_n hB 0 rfl (by decide +kernel : decode cX11_inRange 0 = .ok (.iload_n 0, 1)) rfl ?_
  refine r_iload_n hB 1 rfl (by decide +kernel : decode cX11_inRange 1 = .ok (.iload_n 1, 1)) rfl ?_
  refine r_icmp_lt hB (tgt := 14) (by decide +kernel : decode cX11_inRange 2 = .ok (.if_icmp .lt 12, 3)) (by decide) hf (fun _ hf => ?_) (fun _ hf => ?_)
  · refine r_iconst hB (v := 0) (by decide +kernel : decode cX11_inRange 14 = .ok (.iconst 0, 1)) (by decide +kernel) ?_
    cases hf
    obtain ⟨rfl, rfl⟩ := hk
    exact r_zret hB (by decide) (by decide +kernel : decode cX11_inRange 15 = .ok (.ireturn, 1))
  · refine r_iload_n hB 0 rfl (by decide +kernel : decode cX11_inRange 5 = .ok (.iload_n 0, 1)) rfl ?_
    refine r_iload_n hB 2 rfl (by decide +kernel : decode cX11_inRange 6 = .ok (.iload_n 2, 1)) rfl ?_
    refine r_icmp_gt hB (tgt := 14) (by decide +kernel : decode cX11_inRange 7 = .ok (.if_icmp .gt 7, 3)) (by decide) hf (fun _ hf => ?_) (fun _ hf => ?_)
    · refine r_iconst hB (v := 0) (by decide +kernel : decode cX11_inRange 14 = .ok (.iconst 0, 1)) (by decide +kernel) ?_
      cases hf
      obtain ⟨rfl, rfl⟩ := hk
      exact r_zret hB (by decide) (by decide +kernel : decode cX11_inRange 15 = .ok (.ireturn, 1))
    · refine r_iconst hB (v := 1) (by decide +kernel : decode cX11_inRange 10 = .ok (.iconst 1, 1)) (by decide +kernel) ?_
      refine r_goto hB (tgt := 15) (by decide +kernel : decode cX11_inRange 11 = .ok (.goto 4, 3)) (by decide) ?_
      cases hf
      obtain ⟨rfl, rfl⟩ := hk
      exact r_zret hB (by decide) (by decide +kernel : decode cX11_inRange 15 = .ok (.ireturn, 1))
theorem m_X11_inRange (l : Launch) (D : va_G) (cy : Nat → ClassId) (b : Nat) {l0 : Int32} {l1 : Int32} {l2 : Int32} {μ : MS} {z : Int32 × MS} (hf : f_X11_inRange l0 l1 l2 μ = some z) : Met l yX11_inRange (.code yX11_inRange cX11_inRange 3 (some .boolean) :: GW) rmX11_inRange (Pw D cy b [.int l0, .int l1, .int l2] μ) (Qw D cy b (some (.int z.1)) (z.2)) rmX11_inRange.cells rmX11_inRange.slots (fun q => b ≤ q) :=
  met_of (by decide) (Nat.le_of_ble_eq_true rfl) (fun X hB _ => (t_X11_inRange_0 hB hf ⟨rfl, rfl⟩))
-- PulseRemote$Table.protocolsFull()Z
set_option maxHeartbeats 4000000 in
set_option maxRecDepth 100000 in
theorem t_X8_protocolsFull_0 {X : BX} {D : va_G} {cy : Nat → ClassId} {b : Nat} {r : Option Value} {μ' : MS} (hB : BB X D cy b yX8_protocolsFull cX8_protocolsFull 1 (some .boolean) rmX8_protocolsFull) {l0 : Nat} {μ : MS} {z : (Int32 × MS)} (hf : f_X8_protocolsFull l0 μ = some z) (hk : (fun z : Int32 × MS => r = some (.int z.1) ∧ μ' = z.2) z) : WW X D cy b r μ' 1 0 0 0 [(0, .ref (b + l0))] [] μ := by
  unfold f_X8_protocolsFull at hf
  refine r_aload_n hB 0 rfl (by decide +kernel : decode cX8_protocolsFull 0 = .ok (.aload_n 0, 1)) rfl ?_
  refine r_gI hB cf8 1 (by decide) (own := "PulseRemote$Table") rfl (Or.inl k_172) (by decide +kernel) (by decide +kernel : decode cX8_protocolsFull 1 = .ok (.getfield 35, 3)) hf (fun x1 hf => ?_)
  refine r_bipush hB (v := 6) (by decide +kernel : decode cX8_protocolsFull 4 = .ok (.bipush 6, 2)) (by decide +kernel) ?_
  refine r_icmp_lt hB (tgt := 13) (by decide +kernel : decode cX8_protocolsFull 6 = .ok (.if_icmp .lt 7, 3)) (by decide) hf (fun _ hf => ?_) (fun _ hf => ?_)
  · refine r_iconst hB (v := 0) (by decide +kernel : decode cX8_protocolsFull 13 = .ok (.iconst 0, 1)) (by decide +kernel) ?_
    cases hf
    obtain ⟨rfl, rfl⟩ := hk
    exact r_zret hB (by decide) (by decide +kernel : decode cX8_protocolsFull 14 = .ok (.ireturn, 1))
  · refine r_iconst hB (v := 1) (by decide +kernel : decode cX8_protocolsFull 9 = .ok (.iconst 1, 1)) (by decide +kernel) ?_
    refine r_goto hB (tgt := 14) (by decide +kernel : decode cX8_protocolsFull 10 = .ok (.goto 4, 3)) (by decide) ?_
    cases hf
    obtain ⟨rfl, rfl⟩ := hk
    exact r_zret hB (by decide) (by decide +kernel : decode cX8_protocolsFull 14 = .ok (.ireturn, 1))
theorem m_X8_protocolsFull (l : Launch) (D : va_G) (cy : Nat → ClassId) (b : Nat) {l0 : Nat} {μ : MS} {z : Int32 × MS} (hf : f_X8_protocolsFull l0 μ = some z) : Met l yX8_protocolsFull (.code yX8_protocolsFull cX8_protocolsFull 1 (some .boolean) :: GW) rmX8_protocolsFull (Pw D cy b [.ref (b + l0)] μ) (Qw D cy b (some (.int z.1)) (z.2)) rmX8_protocolsFull.cells rmX8_protocolsFull.slots (fun q => b ≤ q) :=
  met_of (by decide) (Nat.le_of_ble_eq_true rfl) (fun X hB _ => (t_X8_protocolsFull_0 hB hf ⟨rfl, rfl⟩))
-- PulseRemote$Protocol.useShape(IIII)V
set_option maxHeartbeats 4000000 in
set_option maxRecDepth 100000 in
theorem t_X6_useShape_0 {X : BX} {D : va_G} {cy : Nat → ClassId} {b : Nat} {r : Option Value} {μ' : MS} (hB : BB X D cy b yX6_useShape cX6_useShape 5 none rmX6_useShape) {l0 : Nat} {l1 : Int32} {l2 : Int32} {l3 : Int32} {l4 : Int32} {μ : MS} {z : MS} (hf : f_X6_useShape l0 l1 l2 l3 l4 μ = some z) (hk : (fun z : MS => r = none ∧ μ' = z) z) : WW X D cy b r μ' 5 0 0 0 [(0, .ref (b + l0)), (1, .int l1), (2, .int l2), (3, .int l3), (4, .int l4)] [] μ := by
  unfold f_X6_useShape at hf
  refine r_aload_n hB 0 rfl (by decide +kernel : decode cX6_useShape 0 = .ok (.aload_n 0, 1)) rfl ?_
  refine r_iload_n hB 1 rfl (by decide +kernel : decode cX6_useShape 1 = .ok (.iload_n 1, 1)) rfl ?_
  refine r_pI hB cf6 0 (by decide) (own := "PulseRemote$Protocol") rfl (Or.inl k_123) (Or.inl rfl) rfl (by decide +kernel : decode cX6_useShape 2 = .ok (.putfield 9, 3)) hf (fun m2 hf => ?_)
  refine r_aload_n hB 0 rfl (by decide +kernel : decode cX6_useShape 5 = .ok (.aload_n 0, 1)) rfl ?_
  refine r_iload_n hB 2 rfl (by decide +kernel : decode cX6_useShape 6 = .ok (.iload_n 2, 1)) rfl ?_
  refine r_pI hB cf6 6 (by decide) (own := "PulseRemote$Protocol") rfl (Or.inl k_141) (Or.inl rfl) rfl (by decide +kernel : decode cX6_useShape 7 = .ok (.putfield 15, 3)) hf (fun m7 hf => ?_)
  refine r_aload_n hB 0 rfl (by decide +kernel : decode cX6_useShape 10 = .ok (.aload_n 0, 1)) rfl ?_
  refine r_iload_n hB 3 rfl (by decide +kernel : decode cX6_useShape 11 = .ok (.iload_n 3, 1)) rfl ?_
  refine r_pI hB cf6 7 (by decide) (own := "PulseRemote$Protocol") rfl (Or.inl k_145) (Or.inl rfl) rfl (by decide +kernel : decode cX6_useShape 12 = .ok (.putfield 18, 3)) hf (fun m12 hf => ?_)
  refine r_aload_n hB 0 rfl (by decide +kernel : decode cX6_useShape 15 = .ok (.aload_n 0, 1)) rfl ?_
  refine r_iload hB 4 rfl (by decide +kernel : decode cX6_useShape 16 = .ok (.iload 4, 2)) ?_
  refine r_pI hB cf6 8 (by decide) (own := "PulseRemote$Protocol") rfl (Or.inl k_147) (Or.inl rfl) rfl (by decide +kernel : decode cX6_useShape 18 = .ok (.putfield 21, 3)) hf (fun m18 hf => ?_)
  cases hf
  obtain ⟨rfl, rfl⟩ := hk
  exact r_vret hB (by decide +kernel : decode cX6_useShape 21 = .ok (.return_, 1))
theorem m_X6_useShape (l : Launch) (D : va_G) (cy : Nat → ClassId) (b : Nat) {l0 : Nat} {l1 : Int32} {l2 : Int32} {l3 : Int32} {l4 : Int32} {μ : MS} {z : MS} (hf : f_X6_useShape l0 l1 l2 l3 l4 μ = some z) : Met l yX6_useShape (.code yX6_useShape cX6_useShape 5 none :: GW) rmX6_useShape (Pw D cy b [.ref (b + l0), .int l1, .int l2, .int l3, .int l4] μ) (Qw D cy b (none) (z)) rmX6_useShape.cells rmX6_useShape.slots (fun q => b ≤ q) :=
  met_of (by decide) (Nat.le_of_ble_eq_true rfl) (fun X hB _ => (t_X6_useShape_0 hB hf ⟨rfl, rfl⟩))
-- PulseRemote$Protocol.useLengths(IIIII)V
set_option maxHeartbeats 4000000 in
set_option maxRecDepth 100000 in
theorem t_X6_useLengths_0 {X : BX} {D : va_G} {cy : Nat → ClassId} {b : Nat} {r : Option Value} {μ' : MS} (hB : BB X D cy b yX6_useLengths cX6_useLengths 6 none rmX6_useLengths) {l0 : Nat} {l1 : Int32} {l2 : Int32} {l3 : Int32} {l4 : Int32} {l5 : Int32} {μ : MS} {z : MS} (hf : f_X6_useLengths l0 l1 l2 l3 l4 l5 μ = some z) (hk : (fun z : MS => r = none ∧ μ' = z) z) : WW X D cy b r μ' 6 0 0 0 [(0, .ref (b + l0)), (1, .int l1), (2, .int l2), (3, .int l3), (4, .int l4), (5, .int l5)] [] μ := by
  unfold f_X6_useLengths at hf
  refine r_aload_n hB 0 rfl (by decide +kernel : decode cX6_useLengths 0 = .ok (.aload_n 0, 1)) rfl ?_
  refine r_iload_n hB 1 rfl (by decide +kernel : decode cX6_useLengths 1 = .ok (.iload_n 1, 1)) rfl ?_
  refine r_pI hB cf6 1 (by decide) (own := "PulseRemote$Protocol") rfl (Or.inl k_126) (Or.inl rfl) rfl (by decide +kernel : decode cX6_useLengths 2 = .ok (.putfield 24, 3)) hf (fun m2 hf => ?_)
  refine r_aload_n hB 0 rfl (by decide +kernel : decode cX6_useLengths 5 = .ok (.aload_n 0, 1)) rfl ?_
  refine r_iload_n hB 2 rfl (by decide +kernel : decode cX6_useLengths 6 = .ok (.iload_n 2, 1)) rfl ?_
  refine r_pI hB cf6 2 (by decide) (own := "PulseRemote$Protocol") rfl (Or.inl k_129) (Or.inl rfl) rfl (by decide +kernel : decode cX6_useLengths 7 = .ok (.putfield 27, 3)) hf (fun m7 hf => ?_)
  refine r_aload_n hB 0 rfl (by decide +kernel : decode cX6_useLengths 10 = .ok (.aload_n 0, 1)) rfl ?_
  refine r_iload_n hB 3 rfl (by decide +kernel : decode cX6_useLengths 11 = .ok (.iload_n 3, 1)) rfl ?_
  refine r_pI hB cf6 3 (by decide) (own := "PulseRemote$Protocol") rfl (Or.inl k_132) (Or.inl rfl) rfl (by decide +kernel : decode cX6_useLengths 12 = .ok (.putfield 30, 3)) hf (fun m12 hf => ?_)
  refine r_aload_n hB 0 rfl (by decide +kernel : decode cX6_useLengths 15 = .ok (.aload_n 0, 1)) rfl ?_
  refine r_iload hB 4 rfl (by decide +kernel : decode cX6_useLengths 16 = .ok (.iload 4, 2)) ?_
  refine r_pI hB cf6 4 (by decide) (own := "PulseRemote$Protocol") rfl (Or.inl k_135) (Or.inl rfl) rfl (by decide +kernel : decode cX6_useLengths 18 = .ok (.putfield 33, 3)) hf (fun m18 hf => ?_)
  refine r_aload_n hB 0 rfl (by decide +kernel : decode cX6_useLengths 21 = .ok (.aload_n 0, 1)) rfl ?_
  refine r_iload hB 5 rfl (by decide +kernel : decode cX6_useLengths 22 = .ok (.iload 5, 2)) ?_
  refine r_pI hB cf6 5 (by decide) (own := "PulseRemote$Protocol") rfl (Or.inl k_138) (Or.inl rfl) rfl (by decide +kernel : decode cX6_useLengths 24 = .ok (.putfield 36, 3)) hf (fun m24 hf => ?_)
  cases hf
  obtain ⟨rfl, rfl⟩ := hk
  exact r_vret hB (by decide +kernel : decode cX6_useLengths 27 = .ok (.return_, 1))
theorem m_X6_useLengths (l : Launch) (D : va_G) (cy : Nat → ClassId) (b : Nat) {l0 : Nat} {l1 : Int32} {l2 : Int32} {l3 : Int32} {l4 : Int32} {l5 : Int32} {μ : MS} {z : MS} (hf : f_X6_useLengths l0 l1 l2 l3 l4 l5 μ = some z) : Met l yX6_useLengths (.code yX6_useLengths cX6_useLengths 6 none :: GW) rmX6_useLengths (Pw D cy b [.ref (b + l0), .int l1, .int l2, .int l3, .int l4, .int l5] μ) (Qw D cy b (none) (z)) rmX6_useLengths.cells rmX6_useLengths.slots (fun q => b ≤ q) :=
  met_of (by decide) (Nat.le_of_ble_eq_true rfl) (fun X hB _ => (t_X6_useLengths_0 hB hf ⟨rfl, rfl⟩))
-- PulseRemote$Protocol.copyFrom(LPulseRemote$Protocol;)V
set_option maxHeartbeats 4000000 in
set_option maxRecDepth 100000 in
theorem t_X6_copyFrom_0 {X : BX} {D : va_G} {cy : Nat → ClassId} {b : Nat} {r : Option Value} {μ' : MS} (hB : BB X D cy b yX6_copyFrom cX6_copyFrom 2 none rmX6_copyFrom) {l0 : Nat} {l1 : Nat} {μ : MS} {z : MS} (hf : f_X6_copyFrom l0 l1 μ = some z) (hk : (fun z : MS => r = none ∧ μ' = z) z) : WW X D cy b r μ' 2 0 0 0 [(0, .ref (b + l0)), (1, .ref (b + l1))] [] μ := by
  unfold f_X6_copyFrom at hf
  refine r_aload_n hB 0 rfl (by decide +kernel : decode cX6_copyFrom 0 = .ok (.aload_n 0, 1)) rfl ?_
  refine r_aload_n hB 1 rfl (by decide +kernel : decode cX6_copyFrom 1 = .ok (.aload_n 1, 1)) rfl ?_
  refine r_gI hB cf6 0 (by decide) (own := "PulseRemote$Protocol") rfl (Or.inl k_123) (by decide +kernel) (by decide +kernel : decode cX6_copyFrom 2 = .ok (.getfield 9, 3)) hf (fun x2 hf => ?_)
  refine r_aload_n hB 1 rfl (by decide +kernel : decode cX6_copyFrom 5 = .ok (.aload_n 1, 1)) rfl ?_
  refine r_gI hB cf6 6 (by decide) (own := "PulseRemote$Protocol") rfl (Or.inl k_141) (by decide +kernel) (by decide +kernel : decode cX6_copyFrom 6 = .ok (.getfield 15, 3)) hf (fun x6 hf => ?_)
  refine r_aload_n hB 1 rfl (by decide +kernel : decode cX6_copyFrom 9 = .ok (.aload_n 1, 1)) rfl ?_
  refine r_gI hB cf6 7 (by decide) (own := "PulseRemote$Protocol") rfl (Or.inl k_145) (by decide +kernel) (by decide +kernel : decode cX6_copyFrom 10 = .ok (.getfield 18, 3)) hf (fun x10 hf => ?_)
  refine r_aload_n hB 1 rfl (by decide +kernel : decode cX6_copyFrom 13 = .ok (.aload_n 1, 1)) rfl ?_
  refine r_gI hB cf6 8 (by decide) (own := "PulseRemote$Protocol") rfl (Or.inl k_147) (by decide +kernel) (by decide +kernel : decode cX6_copyFrom 14 = .ok (.getfield 21, 3)) hf (fun x14 hf => ?_)
  refine r_cVv hB [.int x2, .int x6, .int x10, .int x14] [] cf6 (own := "PulseRemote$Protocol") rfl cmX6_useShape imX6_useShape (Or.inl k_529) (by decide) rfl rfl rfl (by decide) (by decide +kernel : decode cX6_copyFrom 17 = .ok (.invokevirtual 39, 3)) (fun z hz => m_X6_useShape _ _ _ _ hz) rfl hf (fun z17 hf => ?_)
  refine r_aload_n hB 0 rfl (by decide +kernel : decode cX6_copyFrom 20 = .ok (.aload_n 0, 1)) rfl ?_
  refine r_aload_n hB 1 rfl (by decide +kernel : decode cX6_copyFrom 21 = .ok (.aload_n 1, 1)) rfl ?_
  refine r_gI hB cf6 1 (by decide) (own := "PulseRemote$Protocol") rfl (Or.inl k_126) (by decide +kernel) (by decide +kernel : decode cX6_copyFrom 22 = .ok (.getfield 24, 3)) hf (fun x22 hf => ?_)
  refine r_aload_n hB 1 rfl (by decide +kernel : decode cX6_copyFrom 25 = .ok (.aload_n 1, 1)) rfl ?_
  refine r_gI hB cf6 2 (by decide) (own := "PulseRemote$Protocol") rfl (Or.inl k_129) (by decide +kernel) (by decide +kernel : decode cX6_copyFrom 26 = .ok (.getfield 27, 3)) hf (fun x26 hf => ?_)
  refine r_aload_n hB 1 rfl (by decide +kernel : decode cX6_copyFrom 29 = .ok (.aload_n 1, 1)) rfl ?_
  refine r_gI hB cf6 3 (by decide) (own := "PulseRemote$Protocol") rfl (Or.inl k_132) (by decide +kernel) (by decide +kernel : decode cX6_copyFrom 30 = .ok (.getfield 30, 3)) hf (fun x30 hf => ?_)
  refine r_aload_n hB 1 rfl (by decide +kernel : decode cX6_copyFrom 33 = .ok (.aload_n 1, 1)) rfl ?_
  refine r_gI hB cf6 4 (by decide) (own := "PulseRemote$Protocol") rfl (Or.inl k_135) (by decide +kernel) (by decide +kernel : decode cX6_copyFrom 34 = .ok (.getfield 33, 3)) hf (fun x34 hf => ?_)
  refine r_aload_n hB 1 rfl (by decide +kernel : decode cX6_copyFrom 37 = .ok (.aload_n 1, 1)) rfl ?_
  refine r_gI hB cf6 5 (by decide) (own := "PulseRemote$Protocol") rfl (Or.inl k_138) (by decide +kernel) (by decide +kernel : decode cX6_copyFrom 38 = .ok (.getfield 36, 3)) hf (fun x38 hf => ?_)
  refine r_cVv hB [.int x22, .int x26, .int x30, .int x34, .int x38] [] cf6 (own := "PulseRemote$Protocol") rfl cmX6_useLengths imX6_useLengths (Or.inl k_533) (by decide) rfl rfl rfl (by decide) (by decide +kernel : decode cX6_copyFrom 41 = .ok (.invokevirtual 43, 3)) (fun z hz => m_X6_useLengths _ _ _ _ hz) rfl hf (fun z41 hf => ?_)
  cases hf
  obtain ⟨rfl, rfl⟩ := hk
  exact r_vret hB (by decide +kernel : decode cX6_copyFrom 44 = .ok (.return_, 1))
theorem m_X6_copyFrom (l : Launch) (D : va_G) (cy : Nat → ClassId) (b : Nat) {l0 : Nat} {l1 : Nat} {μ : MS} {z : MS} (hf : f_X6_copyFrom l0 l1 μ = some z) : Met l yX6_copyFrom (.code yX6_copyFrom cX6_copyFrom 2 none :: GW) rmX6_copyFrom (Pw D cy b [.ref (b + l0), .ref (b + l1)] μ) (Qw D cy b (none) (z)) rmX6_copyFrom.cells rmX6_copyFrom.slots (fun q => b ≤ q) :=
  met_of (by decide) (Nat.le_of_ble_eq_true rfl) (fun X hB _ => (t_X6_copyFrom_0 hB hf ⟨rfl, rfl⟩))
-- PulseRemote$Table.copyFrom(LPulseRemote$Table;)V
set_option maxHeartbeats 4000000 in
set_option maxRecDepth 100000 in
theorem t_X8_copyFrom_29 {X : BX} {D : va_G} {cy : Nat → ClassId} {b : Nat} {r : Option Value} {μ' : MS} (hB : BB X D cy b yX8_copyFrom cX8_copyFrom 3 none rmX8_copyFrom) {l0 : Nat} {l1 : Nat} {μ : MS} {z : MS} (hf : f_X8_copyFrom_29 l0 l1 μ = some z) (hk : (fun z : MS => r = none ∧ μ' = z) z) : WW X D cy b r μ' 3 0 0 29 [(0, .ref (b + l0)), (1, .ref (b + l1))] [] μ := by
  unfold f_X8_copyFrom_29 at hf
  refine r_aload_n hB 1 rfl (by decide +kernel : decode cX8_copyFrom 29 = .ok (.aload_n 1, 1)) rfl ?_
  refine r_gR hB cf8 2 (by decide) (own := "PulseRemote$Table") rfl (Or.inl k_176) (by decide +kernel) (by decide +kernel : decode cX8_copyFrom 30 = .ok (.getfield 17, 3)) hf (fun x30 hf => ?_)
  refine r_iconst hB (v := 0) (by decide +kernel : decode cX8_copyFrom 33 = .ok (.iconst 0, 1)) (by decide +kernel) ?_
  refine r_aload_n hB 0 rfl (by decide +kernel : decode cX8_copyFrom 34 = .ok (.aload_n 0, 1)) rfl ?_
  refine r_gR hB cf8 2 (by decide) (own := "PulseRemote$Table") rfl (Or.inl k_176) (by decide +kernel) (by decide +kernel : decode cX8_copyFrom 35 = .ok (.getfield 17, 3)) hf (fun x35 hf => ?_)
  refine r_iconst hB (v := 0) (by decide +kernel : decode cX8_copyFrom 38 = .ok (.iconst 0, 1)) (by decide +kernel) ?_
  refine r_bipush hB (v := 12) (by decide +kernel : decode cX8_copyFrom 39 = .ok (.bipush 12, 2)) (by decide +kernel) ?_
  refine r_copyI hB (own := "PulseRemote$Table") rfl k_537 k_539 k_538 k_90 (by decide) (by decide) (by decide +kernel : decode cX8_copyFrom 41 = .ok (.invokestatic 29, 3)) hf (fun m41 hf => ?_)
  refine r_aload_n hB 1 rfl (by decide +kernel : decode cX8_copyFrom 44 = .ok (.aload_n 1, 1)) rfl ?_
  refine r_gR hB cf8 3 (by decide) (own := "PulseRemote$Table") rfl (Or.inl k_177) (by decide +kernel) (by decide +kernel : decode cX8_copyFrom 45 = .ok (.getfield 21, 3)) hf (fun x45 hf => ?_)
  refine r_iconst hB (v := 0) (by decide +kernel : decode cX8_copyFrom 48 = .ok (.iconst 0, 1)) (by decide +kernel) ?_
  refine r_aload_n hB 0 rfl (by decide +kernel : decode cX8_copyFrom 49 = .ok (.aload_n 0, 1)) rfl ?_
  refine r_gR hB cf8 3 (by decide) (own := "PulseRemote$Table") rfl (Or.inl k_177) (by decide +kernel) (by decide +kernel : decode cX8_copyFrom 50 = .ok (.getfield 21, 3)) hf (fun x50 hf => ?_)
  refine r_iconst hB (v := 0) (by decide +kernel : decode cX8_copyFrom 53 = .ok (.iconst 0, 1)) (by decide +kernel) ?_
  refine r_bipush hB (v := 12) (by decide +kernel : decode cX8_copyFrom 54 = .ok (.bipush 12, 2)) (by decide +kernel) ?_
  refine r_copyI hB (own := "PulseRemote$Table") rfl k_537 k_539 k_538 k_90 (by decide) (by decide) (by decide +kernel : decode cX8_copyFrom 56 = .ok (.invokestatic 29, 3)) hf (fun m56 hf => ?_)
  refine r_aload_n hB 0 rfl (by decide +kernel : decode cX8_copyFrom 59 = .ok (.aload_n 0, 1)) rfl ?_
  refine r_aload_n hB 1 rfl (by decide +kernel : decode cX8_copyFrom 60 = .ok (.aload_n 1, 1)) rfl ?_
  refine r_gI hB cf8 1 (by decide) (own := "PulseRemote$Table") rfl (Or.inl k_172) (by decide +kernel) (by decide +kernel : decode cX8_copyFrom 61 = .ok (.getfield 35, 3)) hf (fun x61 hf => ?_)
  refine r_pI hB cf8 1 (by decide) (own := "PulseRemote$Table") rfl (Or.inl k_172) (Or.inl rfl) rfl (by decide +kernel : decode cX8_copyFrom 64 = .ok (.putfield 35, 3)) hf (fun m64 hf => ?_)
  refine r_aload_n hB 0 rfl (by decide +kernel : decode cX8_copyFrom 67 = .ok (.aload_n 0, 1)) rfl ?_
  refine r_aload_n hB 1 rfl (by decide +kernel : decode cX8_copyFrom 68 = .ok (.aload_n 1, 1)) rfl ?_
  refine r_gI hB cf8 4 (by decide) (own := "PulseRemote$Table") rfl (Or.inl k_178) (by decide +kernel) (by decide +kernel : decode cX8_copyFrom 69 = .ok (.getfield 39, 3)) hf (fun x69 hf => ?_)
  refine r_pI hB cf8 4 (by decide) (own := "PulseRemote$Table") rfl (Or.inl k_178) (Or.inl rfl) rfl (by decide +kernel : decode cX8_copyFrom 72 = .ok (.putfield 39, 3)) hf (fun m72 hf => ?_)
  cases hf
  obtain ⟨rfl, rfl⟩ := hk
  exact r_vret hB (by decide +kernel : decode cX8_copyFrom 75 = .ok (.return_, 1))
set_option maxHeartbeats 4000000 in
set_option maxRecDepth 100000 in
theorem t_X8_copyFrom_2_b {X : BX} {D : va_G} {cy : Nat → ClassId} {b : Nat} {r : Option Value} {μ' : MS} (hB : BB X D cy b yX8_copyFrom cX8_copyFrom 3 none rmX8_copyFrom) {l0 : Nat} {l1 : Nat} {l2 : Int32} {μ : MS} {z : ((Nat × Nat × Int32 × MS) ⊕ MS)} (hf : f_X8_copyFrom_2_b l0 l1 l2 μ = some z) (hk : (Sum.elim (fun s : Nat × Nat × Int32 × MS => WW X D cy b r μ' 3 0 0 2 [(0, .ref (b + s.1)), (1, .ref (b + s.2.1)), (2, .int s.2.2.1)] [] s.2.2.2) (fun z : MS => r = none ∧ μ' = z)) z) : WW X D cy b r μ' 3 0 0 2 [(0, .ref (b + l0)), (1, .ref (b + l1)), (2, .int l2)] [] μ := by
  unfold f_X8_copyFrom_2_b at hf
  refine r_iload_n hB 2 rfl (by decide +kernel : decode cX8_copyFrom 2 = .ok (.iload_n 2, 1)) rfl ?_
  refine r_bipush hB (v := 6) (by decide +kernel : decode cX8_copyFrom 3 = .ok (.bipush 6, 2)) (by decide +kernel) ?_
  refine r_icmp_ge hB (tgt := 29) (by decide +kernel : decode cX8_copyFrom 5 = .ok (.if_icmp .ge 24, 3)) (by decide) hf (fun _ hf => ?_) (fun _ hf => ?_)
  · obtain ⟨z, hf, rfl⟩ := xr_inv hf
    exact WW.sub [0, 1] rfl (t_X8_copyFrom_29 hB hf hk)
  · refine r_aload_n hB 0 rfl (by decide +kernel : decode cX8_copyFrom 8 = .ok (.aload_n 0, 1)) rfl ?_
    refine r_gR hB cf8 0 (by decide) (own := "PulseRemote$Table") rfl (Or.inl k_171) (by decide +kernel) (by decide +kernel : decode cX8_copyFrom 9 = .ok (.getfield 11, 3)) hf (fun x9 hf => ?_)
    refine r_iload_n hB 2 rfl (by decide +kernel : decode cX8_copyFrom 12 = .ok (.iload_n 2, 1)) rfl ?_
    refine r_aald hB (t := 18) (C := RX6) (Or.inl ⟨rfl, rfl⟩) (by decide +kernel : decode cX8_copyFrom 13 = .ok (.aaload, 1)) hf (fun x13 hf => ?_)
    refine r_aload_n hB 1 rfl (by decide +kernel : decode cX8_copyFrom 14 = .ok (.aload_n 1, 1)) rfl ?_
    refine r_gR hB cf8 0 (by decide) (own := "PulseRemote$Table") rfl (Or.inl k_171) (by decide +kernel) (by decide +kernel : decode cX8_copyFrom 15 = .ok (.getfield 11, 3)) hf (fun x15 hf => ?_)
    refine r_iload_n hB 2 rfl (by decide +kernel : decode cX8_copyFrom 18 = .ok (.iload_n 2, 1)) rfl ?_
    refine r_aald hB (t := 18) (C := RX6) (Or.inl ⟨rfl, rfl⟩) (by decide +kernel : decode cX8_copyFrom 19 = .ok (.aaload, 1)) hf (fun x19 hf => ?_)
    refine r_cVv hB [.ref (b + x19)] [] cf6 (own := "PulseRemote$Table") rfl cmX6_copyFrom imX6_copyFrom (Or.inl k_525) (by decide) rfl rfl rfl (by decide) (by decide +kernel : decode cX8_copyFrom 20 = .ok (.invokevirtual 25, 3)) (fun z hz => m_X6_copyFrom _ _ _ _ hz) rfl hf (fun z20 hf => ?_)
    refine r_iincB hB 2 rfl (by decide +kernel : decode cX8_copyFrom 23 = .ok (.iinc 2 1, 3)) (w := 1) (by decide +kernel) (by decide) hf (fun v23 hf => ?_)
    refine ww_lv (lv' := [(2, .int v23), (0, .ref (b + l0)), (1, .ref (b + l1))]) rfl ?_
    refine r_goto hB (tgt := 2) (by decide +kernel : decode cX8_copyFrom 26 = .ok (.goto (-24), 3)) (by decide) ?_
    cases hf
    exact WW.sub [1, 2, 0] rfl hk
set_option maxHeartbeats 4000000 in
set_option maxRecDepth 100000 in
theorem t_X8_copyFrom_2 {X : BX} {D : va_G} {cy : Nat → ClassId} {b : Nat} {r : Option Value} {μ' : MS} (hB : BB X D cy b yX8_copyFrom cX8_copyFrom 3 none rmX8_copyFrom) {l0 : Nat} {l1 : Nat} {l2 : Int32} {μ : MS} {z : MS} (hf : f_X8_copyFrom_2 l0 l1 l2 μ = some z) (hk : (fun z : MS => r = none ∧ μ' = z) z) : WW X D cy b r μ' 3 0 0 2 [(0, .ref (b + l0)), (1, .ref (b + l1)), (2, .int l2)] [] μ :=
  lp_ind (P := fun s : Nat × Nat × Int32 × MS => WW X D cy b r μ' 3 0 0 2 [(0, .ref (b + s.1)), (1, .ref (b + s.2.1)), (2, .int s.2.2.1)] [] s.2.2.2) (Q := (fun z : MS => r = none ∧ μ' = z)) (fun s z hz hk => t_X8_copyFrom_2_b hB hz hk) (l0, l1, l2, μ) z hf hk
set_option maxHeartbeats 4000000 in
set_option maxRecDepth 100000 in
theorem t_X8_copyFrom_0 {X : BX} {D : va_G} {cy : Nat → ClassId} {b : Nat} {r : Option Value} {μ' : MS} (hB : BB X D cy b yX8_copyFrom cX8_copyFrom 3 none rmX8_copyFrom) {l0 : Nat} {l1 : Nat} {μ : MS} {z : MS} (hf : f_X8_copyFrom l0 l1 μ = some z) (hk : (fun z : MS => r = none ∧ μ' = z) z) : WW X D cy b r μ' 3 0 0 0 [(0, .ref (b + l0)), (1, .ref (b + l1))] [] μ := by
  unfold f_X8_copyFrom at hf
  refine r_iconst hB (v := 0) (by decide +kernel : decode cX8_copyFrom 0 = .ok (.iconst 0, 1)) (by decide +kernel) ?_
  refine r_istore_n hB (by decide +kernel : decode cX8_copyFrom 1 = .ok (.istore_n 2, 1)) rfl (by decide) rfl ?_
  refine ww_lv (lv' := [(2, .int 0), (0, .ref (b + l0)), (1, .ref (b + l1))]) rfl ?_
  exact WW.sub [1, 2, 0] rfl (t_X8_copyFrom_2 hB hf hk)
theorem m_X8_copyFrom (l : Launch) (D : va_G) (cy : Nat → ClassId) (b : Nat) {l0 : Nat} {l1 : Nat} {μ : MS} {z : MS} (hf : f_X8_copyFrom l0 l1 μ = some z) : Met l yX8_copyFrom (.code yX8_copyFrom cX8_copyFrom 3 none :: GW) rmX8_copyFrom (Pw D cy b [.ref (b + l0), .ref (b + l1)] μ) (Qw D cy b (none) (z)) rmX8_copyFrom.cells rmX8_copyFrom.slots (fun q => b ≤ q) :=
  met_of (by decide) (Nat.le_of_ble_eq_true rfl) (fun X hB _ => (t_X8_copyFrom_0 hB hf ⟨rfl, rfl⟩))
-- PulseRemote$Train.copyFrom(LPulseRemote$Train;)V
set_option maxHeartbeats 4000000 in
set_option maxRecDepth 100000 in
theorem t_X10_copyFrom_0 {X : BX} {D : va_G} {cy : Nat → ClassId} {b : Nat} {r : Option Value} {μ' : MS} (hB : BB X D cy b yX10_copyFrom cX10_copyFrom 2 none rmX10_copyFrom) {l0 : Nat} {l1 : Nat} {μ : MS} {z : MS} (hf : f_X10_copyFrom l0 l1 μ = some z) (hk : (fun z : MS => r = none ∧ μ' = z) z) : WW X D cy b r μ' 2 0 0 0 [(0, .ref (b + l0)), (1, .ref (b + l1))] [] μ := by
  unfold f_X10_copyFrom at hf
  refine r_aload_n hB 0 rfl (by decide +kernel : decode cX10_copyFrom 0 = .ok (.aload_n 0, 1)) rfl ?_
  refine r_aload_n hB 1 rfl (by decide +kernel : decode cX10_copyFrom 1 = .ok (.aload_n 1, 1)) rfl ?_
  refine r_gI hB cf10 1 (by decide) (own := "PulseRemote$Train") rfl (Or.inl k_200) (by decide +kernel) (by decide +kernel : decode cX10_copyFrom 2 = .ok (.getfield 15, 3)) hf (fun x2 hf => ?_)
  refine r_iconst hB (v := 0) (by decide +kernel : decode cX10_copyFrom 5 = .ok (.iconst 0, 1)) (by decide +kernel) ?_
  refine r_max hB (own := "PulseRemote$Train") rfl k_544 k_545 k_91 k_546 (by decide +kernel : decode cX10_copyFrom 6 = .ok (.invokestatic 31, 3)) (by decide) (by decide) ?_
  refine r_sipush hB (v := 200) (by decide +kernel : decode cX10_copyFrom 9 = .ok (.sipush 200, 3)) (by decide +kernel) ?_
  refine r_min hB (own := "PulseRemote$Train") rfl k_547 k_548 k_91 k_549 (by decide +kernel : decode cX10_copyFrom 12 = .ok (.invokestatic 38, 3)) (by decide) (by decide) ?_
  refine r_pI hB cf10 1 (by decide) (own := "PulseRemote$Train") rfl (Or.inl k_200) (Or.inl rfl) rfl (by decide +kernel : decode cX10_copyFrom 15 = .ok (.putfield 15, 3)) hf (fun m15 hf => ?_)
  refine r_aload_n hB 1 rfl (by decide +kernel : decode cX10_copyFrom 18 = .ok (.aload_n 1, 1)) rfl ?_
  refine r_gR hB cf10 0 (by decide) (own := "PulseRemote$Train") rfl (Or.inl k_199) (by decide +kernel) (by decide +kernel : decode cX10_copyFrom 19 = .ok (.getfield 9, 3)) hf (fun x19 hf => ?_)
  refine r_iconst hB (v := 0) (by decide +kernel : decode cX10_copyFrom 22 = .ok (.iconst 0, 1)) (by decide +kernel) ?_
  refine r_aload_n hB 0 rfl (by decide +kernel : decode cX10_copyFrom 23 = .ok (.aload_n 0, 1)) rfl ?_
  refine r_gR hB cf10 0 (by decide) (own := "PulseRemote$Train") rfl (Or.inl k_199) (by decide +kernel) (by decide +kernel : decode cX10_copyFrom 24 = .ok (.getfield 9, 3)) hf (fun x24 hf => ?_)
  refine r_iconst hB (v := 0) (by decide +kernel : decode cX10_copyFrom 27 = .ok (.iconst 0, 1)) (by decide +kernel) ?_
  refine r_aload_n hB 0 rfl (by decide +kernel : decode cX10_copyFrom 28 = .ok (.aload_n 0, 1)) rfl ?_
  refine r_gI hB cf10 1 (by decide) (own := "PulseRemote$Train") rfl (Or.inl k_200) (by decide +kernel) (by decide +kernel : decode cX10_copyFrom 29 = .ok (.getfield 15, 3)) hf (fun x29 hf => ?_)
  refine r_copyI hB (own := "PulseRemote$Train") rfl k_550 k_539 k_538 k_90 (by decide) (by decide) (by decide +kernel : decode cX10_copyFrom 32 = .ok (.invokestatic 41, 3)) hf (fun m32 hf => ?_)
  cases hf
  obtain ⟨rfl, rfl⟩ := hk
  exact r_vret hB (by decide +kernel : decode cX10_copyFrom 35 = .ok (.return_, 1))
theorem m_X10_copyFrom (l : Launch) (D : va_G) (cy : Nat → ClassId) (b : Nat) {l0 : Nat} {l1 : Nat} {μ : MS} {z : MS} (hf : f_X10_copyFrom l0 l1 μ = some z) : Met l yX10_copyFrom (.code yX10_copyFrom cX10_copyFrom 2 none :: GW) rmX10_copyFrom (Pw D cy b [.ref (b + l0), .ref (b + l1)] μ) (Qw D cy b (none) (z)) rmX10_copyFrom.cells rmX10_copyFrom.slots (fun q => b ≤ q) :=
  met_of (by decide) (Nat.le_of_ble_eq_true rfl) (fun X hB _ => (t_X10_copyFrom_0 hB hf ⟨rfl, rfl⟩))
-- PulseRemote$State.copyFrom(LPulseRemote$State;)V
set_option maxHeartbeats 4000000 in
set_option maxRecDepth 100000 in
theorem t_X7_copyFrom_39 {X : BX} {D : va_G} {cy : Nat → ClassId} {b : Nat} {r : Option Value} {μ' : MS} (hB : BB X D cy b yX7_copyFrom cX7_copyFrom 3 none rmX7_copyFrom) {l0 : Nat} {l1 : Nat} {μ : MS} {z : MS} (hf : f_X7_copyFrom_39 l0 l1 μ = some z) (hk : (fun z : MS => r = none ∧ μ' = z) z) : WW X D cy b r μ' 3 0 0 39 [(0, .ref (b + l0)), (1, .ref (b + l1))] [] μ := by
  unfold f_X7_copyFrom_39 at hf
  refine r_aload_n hB 0 rfl (by decide +kernel : decode cX7_copyFrom 39 = .ok (.aload_n 0, 1)) rfl ?_
  refine r_aload_n hB 1 rfl (by decide +kernel : decode cX7_copyFrom 40 = .ok (.aload_n 1, 1)) rfl ?_
  refine r_gI hB cf7 2 (by decide) (own := "PulseRemote$State") rfl (Or.inl k_214) (by decide +kernel) (by decide +kernel : decode cX7_copyFrom 41 = .ok (.getfield 24, 3)) hf (fun x41 hf => ?_)
  refine r_pI hB cf7 2 (by decide) (own := "PulseRemote$State") rfl (Or.inl k_214) (Or.inl rfl) rfl (by decide +kernel : decode cX7_copyFrom 44 = .ok (.putfield 24, 3)) hf (fun m44 hf => ?_)
  refine r_aload_n hB 0 rfl (by decide +kernel : decode cX7_copyFrom 47 = .ok (.aload_n 0, 1)) rfl ?_
  refine r_aload_n hB 1 rfl (by decide +kernel : decode cX7_copyFrom 48 = .ok (.aload_n 1, 1)) rfl ?_
  refine r_gI hB cf7 3 (by decide) (own := "PulseRemote$State") rfl (Or.inl k_217) (by decide +kernel) (by decide +kernel : decode cX7_copyFrom 49 = .ok (.getfield 29, 3)) hf (fun x49 hf => ?_)
  refine r_pI hB cf7 3 (by decide) (own := "PulseRemote$State") rfl (Or.inl k_217) (Or.inl rfl) rfl (by decide +kernel : decode cX7_copyFrom 52 = .ok (.putfield 29, 3)) hf (fun m52 hf => ?_)
  refine r_aload_n hB 0 rfl (by decide +kernel : decode cX7_copyFrom 55 = .ok (.aload_n 0, 1)) rfl ?_
  refine r_aload_n hB 1 rfl (by decide +kernel : decode cX7_copyFrom 56 = .ok (.aload_n 1, 1)) rfl ?_
  refine r_gI hB cf7 4 (by decide) (own := "PulseRemote$State") rfl (Or.inl k_220) (by decide +kernel) (by decide +kernel : decode cX7_copyFrom 57 = .ok (.getfield 32, 3)) hf (fun x57 hf => ?_)
  refine r_pI hB cf7 4 (by decide) (own := "PulseRemote$State") rfl (Or.inl k_220) (Or.inl rfl) rfl (by decide +kernel : decode cX7_copyFrom 60 = .ok (.putfield 32, 3)) hf (fun m60 hf => ?_)
  cases hf
  obtain ⟨rfl, rfl⟩ := hk
  exact r_vret hB (by decide +kernel : decode cX7_copyFrom 63 = .ok (.return_, 1))
set_option maxHeartbeats 4000000 in
set_option maxRecDepth 100000 in
theorem t_X7_copyFrom_13_b {X : BX} {D : va_G} {cy : Nat → ClassId} {b : Nat} {r : Option Value} {μ' : MS} (hB : BB X D cy b yX7_copyFrom cX7_copyFrom 3 none rmX7_copyFrom) {l0 : Nat} {l1 : Nat} {l2 : Int32} {μ : MS} {z : ((Nat × Nat × Int32 × MS) ⊕ MS)} (hf : f_X7_copyFrom_13_b l0 l1 l2 μ = some z) (hk : (Sum.elim (fun s : Nat × Nat × Int32 × MS => WW X D cy b r μ' 3 0 0 13 [(0, .ref (b + s.1)), (1, .ref (b + s.2.1)), (2, .int s.2.2.1)] [] s.2.2.2) (fun z : MS => r = none ∧ μ' = z)) z) : WW X D cy b r μ' 3 0 0 13 [(0, .ref (b + l0)), (1, .ref (b + l1)), (2, .int l2)] [] μ := by
  unfold f_X7_copyFrom_13_b at hf
  refine r_iload_n hB 2 rfl (by decide +kernel : decode cX7_copyFrom 13 = .ok (.iload_n 2, 1)) rfl ?_
  refine r_iconst hB (v := 3) (by decide +kernel : decode cX7_copyFrom 14 = .ok (.iconst 3, 1)) (by decide +kernel) ?_
  refine r_icmp_ge hB (tgt := 39) (by decide +kernel : decode cX7_copyFrom 15 = .ok (.if_icmp .ge 24, 3)) (by decide) hf (fun _ hf => ?_) (fun _ hf => ?_)
  · obtain ⟨z, hf, rfl⟩ := xr_inv hf
    exact WW.sub [0, 1] rfl (t_X7_copyFrom_39 hB hf hk)
  · refine r_aload_n hB 0 rfl (by decide +kernel : decode cX7_copyFrom 18 = .ok (.aload_n 0, 1)) rfl ?_
    refine r_gR hB cf7 1 (by decide) (own := "PulseRemote$State") rfl (Or.inl k_213) (by decide +kernel) (by decide +kernel : decode cX7_copyFrom 19 = .ok (.getfield 20, 3)) hf (fun x19 hf => ?_)
    refine r_iload_n hB 2 rfl (by decide +kernel : decode cX7_copyFrom 22 = .ok (.iload_n 2, 1)) rfl ?_
    refine r_aald hB (t := 20) (C := RX10) (Or.inr (Or.inr ⟨rfl, rfl⟩)) (by decide +kernel : decode cX7_copyFrom 23 = .ok (.aaload, 1)) hf (fun x23 hf => ?_)
    refine r_aload_n hB 1 rfl (by decide +kernel : decode cX7_copyFrom 24 = .ok (.aload_n 1, 1)) rfl ?_
    refine r_gR hB cf7 1 (by decide) (own := "PulseRemote$State") rfl (Or.inl k_213) (by decide +kernel) (by decide +kernel : decode cX7_copyFrom 25 = .ok (.getfield 20, 3)) hf (fun x25 hf => ?_)
    refine r_iload_n hB 2 rfl (by decide +kernel : decode cX7_copyFrom 28 = .ok (.iload_n 2, 1)) rfl ?_
    refine r_aald hB (t := 20) (C := RX10) (Or.inr (Or.inr ⟨rfl, rfl⟩)) (by decide +kernel : decode cX7_copyFrom 29 = .ok (.aaload, 1)) hf (fun x29 hf => ?_)
    refine r_cVv hB [.ref (b + x29)] [] cf10 (own := "PulseRemote$State") rfl cmX10_copyFrom imX10_copyFrom (Or.inl k_540) (by decide) rfl rfl rfl (by decide) (by decide +kernel : decode cX7_copyFrom 30 = .ok (.invokevirtual 44, 3)) (fun z hz => m_X10_copyFrom _ _ _ _ hz) rfl hf (fun z30 hf => ?_)
    refine r_iincB hB 2 rfl (by decide +kernel : decode cX7_copyFrom 33 = .ok (.iinc 2 1, 3)) (w := 1) (by decide +kernel) (by decide) hf (fun v33 hf => ?_)
    refine ww_lv (lv' := [(2, .int v33), (0, .ref (b + l0)), (1, .ref (b + l1))]) rfl ?_
    refine r_goto hB (tgt := 13) (by decide +kernel : decode cX7_copyFrom 36 = .ok (.goto (-23), 3)) (by decide) ?_
    cases hf
    exact WW.sub [1, 2, 0] rfl hk
set_option maxHeartbeats 4000000 in
set_option maxRecDepth 100000 in
theorem t_X7_copyFrom_13 {X : BX} {D : va_G} {cy : Nat → ClassId} {b : Nat} {r : Option Value} {μ' : MS} (hB : BB X D cy b yX7_copyFrom cX7_copyFrom 3 none rmX7_copyFrom) {l0 : Nat} {l1 : Nat} {l2 : Int32} {μ : MS} {z : MS} (hf : f_X7_copyFrom_13 l0 l1 l2 μ = some z) (hk : (fun z : MS => r = none ∧ μ' = z) z) : WW X D cy b r μ' 3 0 0 13 [(0, .ref (b + l0)), (1, .ref (b + l1)), (2, .int l2)] [] μ :=
  lp_ind (P := fun s : Nat × Nat × Int32 × MS => WW X D cy b r μ' 3 0 0 13 [(0, .ref (b + s.1)), (1, .ref (b + s.2.1)), (2, .int s.2.2.1)] [] s.2.2.2) (Q := (fun z : MS => r = none ∧ μ' = z)) (fun s z hz hk => t_X7_copyFrom_13_b hB hz hk) (l0, l1, l2, μ) z hf hk
set_option maxHeartbeats 4000000 in
set_option maxRecDepth 100000 in
theorem t_X7_copyFrom_0 {X : BX} {D : va_G} {cy : Nat → ClassId} {b : Nat} {r : Option Value} {μ' : MS} (hB : BB X D cy b yX7_copyFrom cX7_copyFrom 3 none rmX7_copyFrom) {l0 : Nat} {l1 : Nat} {μ : MS} {z : MS} (hf : f_X7_copyFrom l0 l1 μ = some z) (hk : (fun z : MS => r = none ∧ μ' = z) z) : WW X D cy b r μ' 3 0 0 0 [(0, .ref (b + l0)), (1, .ref (b + l1))] [] μ := by
  unfold f_X7_copyFrom at hf
  refine r_aload_n hB 0 rfl (by decide +kernel : decode cX7_copyFrom 0 = .ok (.aload_n 0, 1)) rfl ?_
  refine r_gR hB cf7 0 (by decide) (own := "PulseRemote$State") rfl (Or.inl k_210) (by decide +kernel) (by decide +kernel : decode cX7_copyFrom 1 = .ok (.getfield 12, 3)) hf (fun x1 hf => ?_)
  refine r_aload_n hB 1 rfl (by decide +kernel : decode cX7_copyFrom 4 = .ok (.aload_n 1, 1)) rfl ?_
  refine r_gR hB cf7 0 (by decide) (own := "PulseRemote$State") rfl (Or.inl k_210) (by decide +kernel) (by decide +kernel : decode cX7_copyFrom 5 = .ok (.getfield 12, 3)) hf (fun x5 hf => ?_)
  refine r_cVv hB [.ref (b + x5)] [] cf8 (own := "PulseRemote$State") rfl cmX8_copyFrom imX8_copyFrom (Or.inl k_521) (by decide) rfl rfl rfl (by decide) (by decide +kernel : decode cX7_copyFrom 8 = .ok (.invokevirtual 40, 3)) (fun z hz => m_X8_copyFrom _ _ _ _ hz) rfl hf (fun z8 hf => ?_)
  refine r_iconst hB (v := 0) (by decide +kernel : decode cX7_copyFrom 11 = .ok (.iconst 0, 1)) (by decide +kernel) ?_
  refine r_istore_n hB (by decide +kernel : decode cX7_copyFrom 12 = .ok (.istore_n 2, 1)) rfl (by decide) rfl ?_
  refine ww_lv (lv' := [(2, .int 0), (0, .ref (b + l0)), (1, .ref (b + l1))]) rfl ?_
  exact WW.sub [1, 2, 0] rfl (t_X7_copyFrom_13 hB hf hk)
theorem m_X7_copyFrom (l : Launch) (D : va_G) (cy : Nat → ClassId) (b : Nat) {l0 : Nat} {l1 : Nat} {μ : MS} {z : MS} (hf : f_X7_copyFrom l0 l1 μ = some z) : Met l yX7_copyFrom (.code yX7_copyFrom cX7_copyFrom 3 none :: GW) rmX7_copyFrom (Pw D cy b [.ref (b + l0), .ref (b + l1)] μ) (Qw D cy b (none) (z)) rmX7_copyFrom.cells rmX7_copyFrom.slots (fun q => b ≤ q) :=
  met_of (by decide) (Nat.le_of_ble_eq_true rfl) (fun X hB _ => (t_X7_copyFrom_0 hB hf ⟨rfl, rfl⟩))
