/-! printed by wip/whole/gen.py -/
-- PulseRemote$Protocol.identityOf(I)I
set_option maxHeartbeats 4000000 in
set_option maxRecDepth 100000 in
theorem t_X6_identityOf_0 {X : BX} {D : va_G} {cy : Nat → ClassId} {b : Nat} {r : Option Value} {μ' : MS} (hB : BB X D cy b yX6_identityOf cX6_identityOf 2 (some .int) rmX6_identityOf) {l0 : Nat} {l1 : Int32} {μ : MS} {z : (Int32 × MS)} (hf : f_X6_identityOf l0 l1 μ = some z) (hk : (fun z : Int32 × MS => r = some (.int z.1) ∧ μ' = z.2) z) : WW X D cy b r μ' 2 0 0 0 [(0, .ref (b + l0)), (1, .int l1)] [] μ := by
  unfold f_X6_identityOf at hf
  refine r_aload_n hB 0 rfl (by decide +kernel : decode cX6_identityOf 0 = .ok (.aload_n 0, 1)) rfl ?_
  refine r_gI hB cf6 8 (by decide) (own := "PulseRemote$Protocol") rfl (Or.inl k_147) (by decide +kernel) (by decide +kernel : decode cX6_identityOf 1 = .ok (.getfield 21, 3)) hf (fun x1 hf => ?_)
  refine r_iconst hB (v := 2) (by decide +kernel : decode cX6_identityOf 4 = .ok (.iconst 2, 1)) (by decide +kernel) ?_
  refine r_icmp_ne hB (tgt := 20) (by decide +kernel : decode cX6_identityOf 5 = .ok (.if_icmp .ne 15, 3)) (by decide) hf (fun _ hf => ?_) (fun _ hf => ?_)
  · refine r_iload_n hB 1 rfl (by decide +kernel : decode cX6_identityOf 8 = .ok (.iload_n 1, 1)) rfl ?_
    refine r_aload_n hB 0 rfl (by decide +kernel : decode cX6_identityOf 9 = .ok (.aload_n 0, 1)) rfl ?_
    refine r_iconst hB (v := 0) (by decide +kernel : decode cX6_identityOf 10 = .ok (.iconst 0, 1)) (by decide +kernel) ?_
    refine r_cVi hB [.int 0] [.int l1] cf6 (own := "PulseRemote$Protocol") rfl cmX6_maskAt imX6_maskAt (Or.inl k_681) (by decide) rfl rfl rfl (Nat.le_of_ble_eq_true rfl) (by decide +kernel : decode cX6_identityOf 11 = .ok (.invokevirtual 47, 3)) (fun z hz => m_X6_maskAt _ _ _ _ hz) rfl hf (fun z11 hf => ?_)
    refine r_iconst hB (v := (-1)) (by decide +kernel : decode cX6_identityOf 14 = .ok (.iconst (-1), 1)) (by decide +kernel) ?_
    refine r_ixor hB (by decide +kernel : decode cX6_identityOf 15 = .ok (.ixor, 1)) ?_
    refine r_iand hB (by decide +kernel : decode cX6_identityOf 16 = .ok (.iand, 1)) ?_
    refine r_goto hB (tgt := 21) (by decide +kernel : decode cX6_identityOf 17 = .ok (.goto 4, 3)) (by decide) ?_
    obtain rfl := Option.some.inj hf
    obtain ⟨rfl, rfl⟩ := hk
    exact r_iret hB (by decide +kernel : decode cX6_identityOf 21 = .ok (.ireturn, 1))
  · refine r_iload_n hB 1 rfl (by decide +kernel : decode cX6_identityOf 20 = .ok (.iload_n 1, 1)) rfl ?_
    obtain rfl := Option.some.inj hf
    obtain ⟨rfl, rfl⟩ := hk
    exact r_iret hB (by decide +kernel : decode cX6_identityOf 21 = .ok (.ireturn, 1))
theorem m_X6_identityOf (l : Launch) (D : va_G) (cy : Nat → ClassId) (b : Nat) {l0 : Nat} {l1 : Int32} {μ : MS} {z : Int32 × MS} (hf : f_X6_identityOf l0 l1 μ = some z) : Met l yX6_identityOf (.code yX6_identityOf cX6_identityOf 2 (some .int) :: GW) rmX6_identityOf (Pw D cy b [.ref (b + l0), .int l1] μ) (Qw D cy b (some (.int z.1)) (z.2)) rmX6_identityOf.cells rmX6_identityOf.slots (fun q => b ≤ q) :=
  met_of (by decide) (Nat.le_of_ble_eq_true rfl) (fun X hB _ => (t_X6_identityOf_0 hB hf ⟨rfl, rfl⟩))
-- PulseRemote$Table.hasButton(I)Z
set_option maxHeartbeats 4000000 in
set_option maxRecDepth 100000 in
theorem t_X8_hasButton_0 {X : BX} {D : va_G} {cy : Nat → ClassId} {b : Nat} {r : Option Value} {μ' : MS} (hB : BB X D cy b yX8_hasButton cX8_hasButton 2 (some .boolean) rmX8_hasButton) {l0 : Nat} {l1 : Int32} {μ : MS} {z : (Int32 × MS)} (hf : f_X8_hasButton l0 l1 μ = some z) (hk : (fun z : Int32 × MS => r = some (.int z.1) ∧ μ' = z.2) z) : WW X D cy b r μ' 2 0 0 0 [(0, .ref (b + l0)), (1, .int l1)] [] μ := by
  unfold f_X8_hasButton at hf
  refine r_iload_n hB 1 rfl (by decide +kernel : decode cX8_hasButton 0 = .ok (.iload_n 1, 1)) rfl ?_
  refine r_if_lt hB (tgt := 22) (by decide +kernel : decode cX8_hasButton 1 = .ok (.ifCond .lt 21, 3)) (by decide) hf (fun _ hf => ?_) (fun _ hf => ?_)
  · refine r_iconst hB (v := 0) (by decide +kernel : decode cX8_hasButton 22 = .ok (.iconst 0, 1)) (by decide +kernel) ?_
    obtain rfl := Option.some.inj hf
    obtain ⟨rfl, rfl⟩ := hk
    exact r_zret hB (Or.inl rfl) (by decide +kernel : decode cX8_hasButton 23 = .ok (.ireturn, 1))
  · refine r_iload_n hB 1 rfl (by decide +kernel : decode cX8_hasButton 4 = .ok (.iload_n 1, 1)) rfl ?_
    refine r_aload_n hB 0 rfl (by decide +kernel : decode cX8_hasButton 5 = .ok (.aload_n 0, 1)) rfl ?_
    refine r_gI hB cf8 4 (by decide) (own := "PulseRemote$Table") rfl (Or.inl k_178) (by decide +kernel) (by decide +kernel : decode cX8_hasButton 6 = .ok (.getfield 39, 3)) hf (fun x6 hf => ?_)
    refine r_icmp_ge hB (tgt := 22) (by decide +kernel : decode cX8_hasButton 9 = .ok (.if_icmp .ge 13, 3)) (by decide) hf (fun _ hf => ?_) (fun _ hf => ?_)
    · refine r_iconst hB (v := 0) (by decide +kernel : decode cX8_hasButton 22 = .ok (.iconst 0, 1)) (by decide +kernel) ?_
      obtain rfl := Option.some.inj hf
      obtain ⟨rfl, rfl⟩ := hk
      exact r_zret hB (Or.inl rfl) (by decide +kernel : decode cX8_hasButton 23 = .ok (.ireturn, 1))
    · refine r_iload_n hB 1 rfl (by decide +kernel : decode cX8_hasButton 12 = .ok (.iload_n 1, 1)) rfl ?_
      refine r_bipush hB (v := 12) (by decide +kernel : decode cX8_hasButton 13 = .ok (.bipush 12, 2)) (by decide +kernel) ?_
      refine r_icmp_ge hB (tgt := 22) (by decide +kernel : decode cX8_hasButton 15 = .ok (.if_icmp .ge 7, 3)) (by decide) hf (fun _ hf => ?_) (fun _ hf => ?_)
      · refine r_iconst hB (v := 0) (by decide +kernel : decode cX8_hasButton 22 = .ok (.iconst 0, 1)) (by decide +kernel) ?_
        obtain rfl := Option.some.inj hf
        obtain ⟨rfl, rfl⟩ := hk
        exact r_zret hB (Or.inl rfl) (by decide +kernel : decode cX8_hasButton 23 = .ok (.ireturn, 1))
      · refine r_iconst hB (v := 1) (by decide +kernel : decode cX8_hasButton 18 = .ok (.iconst 1, 1)) (by decide +kernel) ?_
        refine r_goto hB (tgt := 23) (by decide +kernel : decode cX8_hasButton 19 = .ok (.goto 4, 3)) (by decide) ?_
        obtain rfl := Option.some.inj hf
        obtain ⟨rfl, rfl⟩ := hk
        exact r_zret hB (Or.inr rfl) (by decide +kernel : decode cX8_hasButton 23 = .ok (.ireturn, 1))
theorem m_X8_hasButton (l : Launch) (D : va_G) (cy : Nat → ClassId) (b : Nat) {l0 : Nat} {l1 : Int32} {μ : MS} {z : Int32 × MS} (hf : f_X8_hasButton l0 l1 μ = some z) : Met l yX8_hasButton (.code yX8_hasButton cX8_hasButton 2 (some .boolean) :: GW) rmX8_hasButton (Pw D cy b [.ref (b + l0), .int l1] μ) (Qw D cy b (some (.int z.1)) (z.2)) rmX8_hasButton.cells rmX8_hasButton.slots (fun q => b ≤ q) :=
  met_of (by decide) (Nat.le_of_ble_eq_true rfl) (fun X hB _ => (t_X8_hasButton_0 hB hf ⟨rfl, rfl⟩))
-- PulseRemote$Table.protocolOfButton(I)I
set_option maxHeartbeats 4000000 in
set_option maxRecDepth 100000 in
theorem t_X8_protocolOfButton_0 {X : BX} {D : va_G} {cy : Nat → ClassId} {b : Nat} {r : Option Value} {μ' : MS} (hB : BB X D cy b yX8_protocolOfButton cX8_protocolOfButton 2 (some .int) rmX8_protocolOfButton) {l0 : Nat} {l1 : Int32} {μ : MS} {z : (Int32 × MS)} (hf : f_X8_protocolOfButton l0 l1 μ = some z) (hk : (fun z : Int32 × MS => r = some (.int z.1) ∧ μ' = z.2) z) : WW X D cy b r μ' 2 0 0 0 [(0, .ref (b + l0)), (1, .int l1)] [] μ := by
  unfold f_X8_protocolOfButton at hf
  refine r_aload_n hB 0 rfl (by decide +kernel : decode cX8_protocolOfButton 0 = .ok (.aload_n 0, 1)) rfl ?_
  refine r_iload_n hB 1 rfl (by decide +kernel : decode cX8_protocolOfButton 1 = .ok (.iload_n 1, 1)) rfl ?_
  refine r_cVi hB [.int l1] [] cf8 (own := "PulseRemote$Table") rfl cmX8_hasButton imX8_hasButton (Or.inl k_693) (by decide) rfl rfl rfl (Nat.le_of_ble_eq_true rfl) (by decide +kernel : decode cX8_protocolOfButton 2 = .ok (.invokevirtual 54, 3)) (fun z hz => m_X8_hasButton _ _ _ _ hz) rfl hf (fun z2 hf => ?_)
  refine r_if_eq hB (tgt := 17) (by decide +kernel : decode cX8_protocolOfButton 5 = .ok (.ifCond .eq 12, 3)) (by decide) hf (fun _ hf => ?_) (fun _ hf => ?_)
  · refine r_bipush hB (v := (-9)) (by decide +kernel : decode cX8_protocolOfButton 17 = .ok (.bipush (-9), 2)) (by decide +kernel) ?_
    obtain rfl := Option.some.inj hf
    obtain ⟨rfl, rfl⟩ := hk
    exact r_iret hB (by decide +kernel : decode cX8_protocolOfButton 19 = .ok (.ireturn, 1))
  · refine r_aload_n hB 0 rfl (by decide +kernel : decode cX8_protocolOfButton 8 = .ok (.aload_n 0, 1)) rfl ?_
    refine r_gR hB cf8 2 (by decide) (own := "PulseRemote$Table") rfl (Or.inl k_176) (by decide +kernel) (by decide +kernel : decode cX8_protocolOfButton 9 = .ok (.getfield 17, 3)) hf (fun x9 hf => ?_)
    refine r_iload_n hB 1 rfl (by decide +kernel : decode cX8_protocolOfButton 12 = .ok (.iload_n 1, 1)) rfl ?_
    refine r_iald hB (by decide +kernel : decode cX8_protocolOfButton 13 = .ok (.iaload, 1)) hf (fun x13 hf => ?_)
    refine r_goto hB (tgt := 19) (by decide +kernel : decode cX8_protocolOfButton 14 = .ok (.goto 5, 3)) (by decide) ?_
    obtain rfl := Option.some.inj hf
    obtain ⟨rfl, rfl⟩ := hk
    exact r_iret hB (by decide +kernel : decode cX8_protocolOfButton 19 = .ok (.ireturn, 1))
theorem m_X8_protocolOfButton (l : Launch) (D : va_G) (cy : Nat → ClassId) (b : Nat) {l0 : Nat} {l1 : Int32} {μ : MS} {z : Int32 × MS} (hf : f_X8_protocolOfButton l0 l1 μ = some z) : Met l yX8_protocolOfButton (.code yX8_protocolOfButton cX8_protocolOfButton 2 (some .int) :: GW) rmX8_protocolOfButton (Pw D cy b [.ref (b + l0), .int l1] μ) (Qw D cy b (some (.int z.1)) (z.2)) rmX8_protocolOfButton.cells rmX8_protocolOfButton.slots (fun q => b ≤ q) :=
  met_of (by decide) (Nat.le_of_ble_eq_true rfl) (fun X hB _ => (t_X8_protocolOfButton_0 hB hf ⟨rfl, rfl⟩))
-- PulseRemote$Table.identityOfButton(I)I
set_option maxHeartbeats 4000000 in
set_option maxRecDepth 100000 in
theorem t_X8_identityOfButton_0 {X : BX} {D : va_G} {cy : Nat → ClassId} {b : Nat} {r : Option Value} {μ' : MS} (hB : BB X D cy b yX8_identityOfButton cX8_identityOfButton 2 (some .int) rmX8_identityOfButton) {l0 : Nat} {l1 : Int32} {μ : MS} {z : (Int32 × MS)} (hf : f_X8_identityOfButton l0 l1 μ = some z) (hk : (fun z : Int32 × MS => r = some (.int z.1) ∧ μ' = z.2) z) : WW X D cy b r μ' 2 0 0 0 [(0, .ref (b + l0)), (1, .int l1)] [] μ := by
  unfold f_X8_identityOfButton at hf
  refine r_aload_n hB 0 rfl (by decide +kernel : decode cX8_identityOfButton 0 = .ok (.aload_n 0, 1)) rfl ?_
  refine r_iload_n hB 1 rfl (by decide +kernel : decode cX8_identityOfButton 1 = .ok (.iload_n 1, 1)) rfl ?_
  refine r_cVi hB [.int l1] [] cf8 (own := "PulseRemote$Table") rfl cmX8_hasButton imX8_hasButton (Or.inl k_693) (by decide) rfl rfl rfl (Nat.le_of_ble_eq_true rfl) (by decide +kernel : decode cX8_identityOfButton 2 = .ok (.invokevirtual 54, 3)) (fun z hz => m_X8_hasButton _ _ _ _ hz) rfl hf (fun z2 hf => ?_)
  refine r_if_eq hB (tgt := 17) (by decide +kernel : decode cX8_identityOfButton 5 = .ok (.ifCond .eq 12, 3)) (by decide) hf (fun _ hf => ?_) (fun _ hf => ?_)
  · refine r_bipush hB (v := (-9)) (by decide +kernel : decode cX8_identityOfButton 17 = .ok (.bipush (-9), 2)) (by decide +kernel) ?_
    obtain rfl := Option.some.inj hf
    obtain ⟨rfl, rfl⟩ := hk
    exact r_iret hB (by decide +kernel : decode cX8_identityOfButton 19 = .ok (.ireturn, 1))
  · refine r_aload_n hB 0 rfl (by decide +kernel : decode cX8_identityOfButton 8 = .ok (.aload_n 0, 1)) rfl ?_
    refine r_gR hB cf8 3 (by decide) (own := "PulseRemote$Table") rfl (Or.inl k_177) (by decide +kernel) (by decide +kernel : decode cX8_identityOfButton 9 = .ok (.getfield 21, 3)) hf (fun x9 hf => ?_)
    refine r_iload_n hB 1 rfl (by decide +kernel : decode cX8_identityOfButton 12 = .ok (.iload_n 1, 1)) rfl ?_
    refine r_iald hB (by decide +kernel : decode cX8_identityOfButton 13 = .ok (.iaload, 1)) hf (fun x13 hf => ?_)
    refine r_goto hB (tgt := 19) (by decide +kernel : decode cX8_identityOfButton 14 = .ok (.goto 5, 3)) (by decide) ?_
    obtain rfl := Option.some.inj hf
    obtain ⟨rfl, rfl⟩ := hk
    exact r_iret hB (by decide +kernel : decode cX8_identityOfButton 19 = .ok (.ireturn, 1))
theorem m_X8_identityOfButton (l : Launch) (D : va_G) (cy : Nat → ClassId) (b : Nat) {l0 : Nat} {l1 : Int32} {μ : MS} {z : Int32 × MS} (hf : f_X8_identityOfButton l0 l1 μ = some z) : Met l yX8_identityOfButton (.code yX8_identityOfButton cX8_identityOfButton 2 (some .int) :: GW) rmX8_identityOfButton (Pw D cy b [.ref (b + l0), .int l1] μ) (Qw D cy b (some (.int z.1)) (z.2)) rmX8_identityOfButton.cells rmX8_identityOfButton.slots (fun q => b ≤ q) :=
  met_of (by decide) (Nat.le_of_ble_eq_true rfl) (fun X hB _ => (t_X8_identityOfButton_0 hB hf ⟨rfl, rfl⟩))
-- PulseRemote$Table.findButton(II)I
set_option maxHeartbeats 4000000 in
set_option maxRecDepth 100000 in
theorem t_X8_findButton_36 {X : BX} {D : va_G} {cy : Nat → ClassId} {b : Nat} {r : Option Value} {μ' : MS} (hB : BB X D cy b yX8_findButton cX8_findButton 4 (some .int) rmX8_findButton)  {μ : MS} {z : (Int32 × MS)} (hf : f_X8_findButton_36  μ = some z) (hk : (fun z : Int32 × MS => r = some (.int z.1) ∧ μ' = z.2) z) : WW X D cy b r μ' 4 0 0 36 [] [] μ := by
  unfold f_X8_findButton_36 at hf
  refine r_bipush hB (v := (-9)) (by decide +kernel : decode cX8_findButton 36 = .ok (.bipush (-9), 2)) (by decide +kernel) ?_
  obtain rfl := Option.some.inj hf
  obtain ⟨rfl, rfl⟩ := hk
  exact r_iret hB (by decide +kernel : decode cX8_findButton 38 = .ok (.ireturn, 1))
set_option maxHeartbeats 4000000 in
set_option maxRecDepth 100000 in
theorem t_X8_findButton_28 {X : BX} {D : va_G} {cy : Nat → ClassId} {b : Nat} {r : Option Value} {μ' : MS} (hB : BB X D cy b yX8_findButton cX8_findButton 4 (some .int) rmX8_findButton) {l3 : Int32} {μ : MS} {z : (Int32 × MS)} (hf : f_X8_findButton_28 l3 μ = some z) (hk : (fun z : Int32 × MS => r = some (.int z.1) ∧ μ' = z.2) z) : WW X D cy b r μ' 4 0 0 28 [(3, .int l3)] [] μ := by
  unfold f_X8_findButton_28 at hf
  refine r_iload_n hB 0 rfl (by decide +kernel : decode cX8_findButton 28 = .ok (.iload_n 3, 1)) rfl ?_
  obtain rfl := Option.some.inj hf
  obtain ⟨rfl, rfl⟩ := hk
  exact r_iret hB (by decide +kernel : decode cX8_findButton 29 = .ok (.ireturn, 1))
set_option maxHeartbeats 4000000 in
set_option maxRecDepth 100000 in
theorem t_X8_findButton_30 {X : BX} {D : va_G} {cy : Nat → ClassId} {b : Nat} {r : Option Value} {μ' : MS} (hB : BB X D cy b yX8_findButton cX8_findButton 4 (some .int) rmX8_findButton) {l0 : Nat} {l1 : Int32} {l2 : Int32} {l3 : Int32} {μ : MS} {z : ((Nat × Int32 × Int32 × Int32 × MS) ⊕ (Int32 × MS))} (hf : f_X8_findButton_30 l0 l1 l2 l3 μ = some z) (hk : (Sum.elim (fun s : Nat × Int32 × Int32 × Int32 × MS => WW X D cy b r μ' 4 0 0 2 [(0, .ref (b + s.1)), (1, .int s.2.1), (2, .int s.2.2.1), (3, .int s.2.2.2.1)] [] s.2.2.2.2) (fun z : Int32 × MS => r = some (.int z.1) ∧ μ' = z.2)) z) : WW X D cy b r μ' 4 0 0 30 [(0, .ref (b + l0)), (1, .int l1), (2, .int l2), (3, .int l3)] [] μ := by
  unfold f_X8_findButton_30 at hf
  refine r_iincB hB 3 rfl (by decide +kernel : decode cX8_findButton 30 = .ok (.iinc 3 1, 3)) (w := 1) (by decide +kernel) (by decide) hf (fun v30 hf => ?_)
  refine ww_lv (lv' := [(3, .int v30), (0, .ref (b + l0)), (1, .int l1), (2, .int l2)]) rfl ?_
  refine r_goto hB (tgt := 2) (by decide +kernel : decode cX8_findButton 33 = .ok (.goto (-31), 3)) (by decide) ?_
  obtain rfl := Option.some.inj hf
  exact WW.sub [1, 2, 3, 0] rfl hk
set_option maxHeartbeats 4000000 in
set_option maxRecDepth 100000 in
theorem t_X8_findButton_2_b {X : BX} {D : va_G} {cy : Nat → ClassId} {b : Nat} {r : Option Value} {μ' : MS} (hB : BB X D cy b yX8_findButton cX8_findButton 4 (some .int) rmX8_findButton) {l0 : Nat} {l1 : Int32} {l2 : Int32} {l3 : Int32} {μ : MS} {z : ((Nat × Int32 × Int32 × Int32 × MS) ⊕ (Int32 × MS))} (hf : f_X8_findButton_2_b l0 l1 l2 l3 μ = some z) (hk : (Sum.elim (fun s : Nat × Int32 × Int32 × Int32 × MS => WW X D cy b r μ' 4 0 0 2 [(0, .ref (b + s.1)), (1, .int s.2.1), (2, .int s.2.2.1), (3, .int s.2.2.2.1)] [] s.2.2.2.2) (fun z : Int32 × MS => r = some (.int z.1) ∧ μ' = z.2)) z) : WW X D cy b r μ' 4 0 0 2 [(0, .ref (b + l0)), (1, .int l1), (2, .int l2), (3, .int l3)] [] μ := by
  unfold f_X8_findButton_2_b at hf
  refine r_iload_n hB 3 rfl (by decide +kernel : decode cX8_findButton 2 = .ok (.iload_n 3, 1)) rfl ?_
  refine r_aload_n hB 0 rfl (by decide +kernel : decode cX8_findButton 3 = .ok (.aload_n 0, 1)) rfl ?_
  refine r_gI hB cf8 4 (by decide) (own := "PulseRemote$Table") rfl (Or.inl k_178) (by decide +kernel) (by decide +kernel : decode cX8_findButton 4 = .ok (.getfield 39, 3)) hf (fun x4 hf => ?_)
  refine r_icmp_ge hB (tgt := 36) (by decide +kernel : decode cX8_findButton 7 = .ok (.if_icmp .ge 29, 3)) (by decide) hf (fun _ hf => ?_) (fun _ hf => ?_)
  · obtain ⟨_, hx0, rfl⟩ := xr_inv hf
    exact WW.sub [] rfl (t_X8_findButton_36 hB hx0 hk)
  · refine r_aload_n hB 0 rfl (by decide +kernel : decode cX8_findButton 10 = .ok (.aload_n 0, 1)) rfl ?_
    refine r_iload_n hB 3 rfl (by decide +kernel : decode cX8_findButton 11 = .ok (.iload_n 3, 1)) rfl ?_
    refine r_cVi hB [.int l3] [] cf8 (own := "PulseRemote$Table") rfl cmX8_protocolOfButton imX8_protocolOfButton (Or.inl k_689) (by decide) rfl rfl rfl (Nat.le_of_ble_eq_true rfl) (by decide +kernel : decode cX8_findButton 12 = .ok (.invokevirtual 58, 3)) (fun z hz => m_X8_protocolOfButton _ _ _ _ hz) rfl hf (fun z12 hf => ?_)
    refine r_iload_n hB 1 rfl (by decide +kernel : decode cX8_findButton 15 = .ok (.iload_n 1, 1)) rfl ?_
    refine r_icmp_ne hB (tgt := 30) (by decide +kernel : decode cX8_findButton 16 = .ok (.if_icmp .ne 14, 3)) (by decide) hf (fun _ hf => ?_) (fun _ hf => ?_)
    · refine r_aload_n hB 0 rfl (by decide +kernel : decode cX8_findButton 19 = .ok (.aload_n 0, 1)) rfl ?_
      refine r_iload_n hB 3 rfl (by decide +kernel : decode cX8_findButton 20 = .ok (.iload_n 3, 1)) rfl ?_
      refine r_cVi hB [.int l3] [] cf8 (own := "PulseRemote$Table") rfl cmX8_identityOfButton imX8_identityOfButton (Or.inl k_697) (by decide) rfl rfl rfl (Nat.le_of_ble_eq_true rfl) (by decide +kernel : decode cX8_findButton 21 = .ok (.invokevirtual 62, 3)) (fun z hz => m_X8_identityOfButton _ _ _ _ hz) rfl hf (fun z21 hf => ?_)
      refine r_iload_n hB 2 rfl (by decide +kernel : decode cX8_findButton 24 = .ok (.iload_n 2, 1)) rfl ?_
      refine r_icmp_ne hB (tgt := 30) (by decide +kernel : decode cX8_findButton 25 = .ok (.if_icmp .ne 5, 3)) (by decide) hf (fun _ hf => ?_) (fun _ hf => ?_)
      · obtain ⟨_, hx0, rfl⟩ := xr_inv hf
        exact WW.sub [3] rfl (t_X8_findButton_28 hB hx0 hk)
      · exact WW.sub [0, 1, 2, 3] rfl (t_X8_findButton_30 hB hf hk)
    · exact WW.sub [0, 1, 2, 3] rfl (t_X8_findButton_30 hB hf hk)
set_option maxHeartbeats 4000000 in
set_option maxRecDepth 100000 in
theorem t_X8_findButton_2 {X : BX} {D : va_G} {cy : Nat → ClassId} {b : Nat} {r : Option Value} {μ' : MS} (hB : BB X D cy b yX8_findButton cX8_findButton 4 (some .int) rmX8_findButton) {l0 : Nat} {l1 : Int32} {l2 : Int32} {l3 : Int32} {μ : MS} {z : (Int32 × MS)} (hf : f_X8_findButton_2 l0 l1 l2 l3 μ = some z) (hk : (fun z : Int32 × MS => r = some (.int z.1) ∧ μ' = z.2) z) : WW X D cy b r μ' 4 0 0 2 [(0, .ref (b + l0)), (1, .int l1), (2, .int l2), (3, .int l3)] [] μ :=
  lp_ind (P := fun s : Nat × Int32 × Int32 × Int32 × MS => WW X D cy b r μ' 4 0 0 2 [(0, .ref (b + s.1)), (1, .int s.2.1), (2, .int s.2.2.1), (3, .int s.2.2.2.1)] [] s.2.2.2.2) (Q := (fun z : Int32 × MS => r = some (.int z.1) ∧ μ' = z.2)) (fun s z hz hk => t_X8_findButton_2_b hB hz hk) (l0, l1, l2, l3, μ) z hf hk
set_option maxHeartbeats 4000000 in
set_option maxRecDepth 100000 in
theorem t_X8_findButton_0 {X : BX} {D : va_G} {cy : Nat → ClassId} {b : Nat} {r : Option Value} {μ' : MS} (hB : BB X D cy b yX8_findButton cX8_findButton 4 (some .int) rmX8_findButton) {l0 : Nat} {l1 : Int32} {l2 : Int32} {μ : MS} {z : (Int32 × MS)} (hf : f_X8_findButton l0 l1 l2 μ = some z) (hk : (fun z : Int32 × MS => r = some (.int z.1) ∧ μ' = z.2) z) : WW X D cy b r μ' 4 0 0 0 [(0, .ref (b + l0)), (1, .int l1), (2, .int l2)] [] μ := by
  unfold f_X8_findButton at hf
  refine r_iconst hB (v := 0) (by decide +kernel : decode cX8_findButton 0 = .ok (.iconst 0, 1)) (by decide +kernel) ?_
  refine r_istore_n hB (by decide +kernel : decode cX8_findButton 1 = .ok (.istore_n 3, 1)) rfl (by decide) rfl ?_
  refine ww_lv (lv' := [(3, .int 0), (0, .ref (b + l0)), (1, .int l1), (2, .int l2)]) rfl ?_
  exact WW.sub [1, 2, 3, 0] rfl (t_X8_findButton_2 hB hf hk)
theorem m_X8_findButton (l : Launch) (D : va_G) (cy : Nat → ClassId) (b : Nat) {l0 : Nat} {l1 : Int32} {l2 : Int32} {μ : MS} {z : Int32 × MS} (hf : f_X8_findButton l0 l1 l2 μ = some z) : Met l yX8_findButton (.code yX8_findButton cX8_findButton 4 (some .int) :: GW) rmX8_findButton (Pw D cy b [.ref (b + l0), .int l1, .int l2] μ) (Qw D cy b (some (.int z.1)) (z.2)) rmX8_findButton.cells rmX8_findButton.slots (fun q => b ≤ q) :=
  met_of (by decide) (Nat.le_of_ble_eq_true rfl) (fun X hB _ => (t_X8_findButton_0 hB hf ⟨rfl, rfl⟩))
-- PulseRemote$Table.buttonsFull()Z
set_option maxHeartbeats 4000000 in
set_option maxRecDepth 100000 in
theorem t_X8_buttonsFull_0 {X : BX} {D : va_G} {cy : Nat → ClassId} {b : Nat} {r : Option Value} {μ' : MS} (hB : BB X D cy b yX8_buttonsFull cX8_buttonsFull 1 (some .boolean) rmX8_buttonsFull) {l0 : Nat} {μ : MS} {z : (Int32 × MS)} (hf : f_X8_buttonsFull l0 μ = some z) (hk : (fun z : Int32 × MS => r = some (.int z.1) ∧ μ' = z.2) z) : WW X D cy b r μ' 1 0 0 0 [(0, .ref (b + l0))] [] μ := by
  unfold f_X8_buttonsFull at hf
  refine r_aload_n hB 0 rfl (by decide +kernel : decode cX8_buttonsFull 0 = .ok (.aload_n 0, 1)) rfl ?_
  refine r_gI hB cf8 4 (by decide) (own := "PulseRemote$Table") rfl (Or.inl k_178) (by decide +kernel) (by decide +kernel : decode cX8_buttonsFull 1 = .ok (.getfield 39, 3)) hf (fun x1 hf => ?_)
  refine r_bipush hB (v := 12) (by decide +kernel : decode cX8_buttonsFull 4 = .ok (.bipush 12, 2)) (by decide +kernel) ?_
  refine r_icmp_lt hB (tgt := 13) (by decide +kernel : decode cX8_buttonsFull 6 = .ok (.if_icmp .lt 7, 3)) (by decide) hf (fun _ hf => ?_) (fun _ hf => ?_)
  · refine r_iconst hB (v := 0) (by decide +kernel : decode cX8_buttonsFull 13 = .ok (.iconst 0, 1)) (by decide +kernel) ?_
    obtain rfl := Option.some.inj hf
    obtain ⟨rfl, rfl⟩ := hk
    exact r_zret hB (Or.inl rfl) (by decide +kernel : decode cX8_buttonsFull 14 = .ok (.ireturn, 1))
  · refine r_iconst hB (v := 1) (by decide +kernel : decode cX8_buttonsFull 9 = .ok (.iconst 1, 1)) (by decide +kernel) ?_
    refine r_goto hB (tgt := 14) (by decide +kernel : decode cX8_buttonsFull 10 = .ok (.goto 4, 3)) (by decide) ?_
    obtain rfl := Option.some.inj hf
    obtain ⟨rfl, rfl⟩ := hk
    exact r_zret hB (Or.inr rfl) (by decide +kernel : decode cX8_buttonsFull 14 = .ok (.ireturn, 1))
theorem m_X8_buttonsFull (l : Launch) (D : va_G) (cy : Nat → ClassId) (b : Nat) {l0 : Nat} {μ : MS} {z : Int32 × MS} (hf : f_X8_buttonsFull l0 μ = some z) : Met l yX8_buttonsFull (.code yX8_buttonsFull cX8_buttonsFull 1 (some .boolean) :: GW) rmX8_buttonsFull (Pw D cy b [.ref (b + l0)] μ) (Qw D cy b (some (.int z.1)) (z.2)) rmX8_buttonsFull.cells rmX8_buttonsFull.slots (fun q => b ≤ q) :=
  met_of (by decide) (Nat.le_of_ble_eq_true rfl) (fun X hB _ => (t_X8_buttonsFull_0 hB hf ⟨rfl, rfl⟩))
-- PulseRemote$Table.newButton(II)I
set_option maxHeartbeats 4000000 in
set_option maxRecDepth 100000 in
theorem t_X8_newButton_47 {X : BX} {D : va_G} {cy : Nat → ClassId} {b : Nat} {r : Option Value} {μ' : MS} (hB : BB X D cy b yX8_newButton cX8_newButton 3 (some .int) rmX8_newButton) {l0 : Nat} {μ : MS} {z : (Int32 × MS)} (hf : f_X8_newButton_47 l0 μ = some z) (hk : (fun z : Int32 × MS => r = some (.int z.1) ∧ μ' = z.2) z) : WW X D cy b r μ' 3 0 0 47 [(0, .ref (b + l0))] [] μ := by
  unfold f_X8_newButton_47 at hf
  refine r_aload_n hB 0 rfl (by decide +kernel : decode cX8_newButton 47 = .ok (.aload_n 0, 1)) rfl ?_
  refine r_gI hB cf8 4 (by decide) (own := "PulseRemote$Table") rfl (Or.inl k_178) (by decide +kernel) (by decide +kernel : decode cX8_newButton 48 = .ok (.getfield 39, 3)) hf (fun x48 hf => ?_)
  refine r_iconst hB (v := 1) (by decide +kernel : decode cX8_newButton 51 = .ok (.iconst 1, 1)) (by decide +kernel) ?_
  refine r_isub hB (by decide +kernel : decode cX8_newButton 52 = .ok (.isub, 1)) ?_
  obtain rfl := Option.some.inj hf
  obtain ⟨rfl, rfl⟩ := hk
  exact r_iret hB (by decide +kernel : decode cX8_newButton 53 = .ok (.ireturn, 1))
set_option maxHeartbeats 4000000 in
set_option maxRecDepth 100000 in
theorem t_X8_newButton_0 {X : BX} {D : va_G} {cy : Nat → ClassId} {b : Nat} {r : Option Value} {μ' : MS} (hB : BB X D cy b yX8_newButton cX8_newButton 3 (some .int) rmX8_newButton) {l0 : Nat} {l1 : Int32} {l2 : Int32} {μ : MS} {z : (Int32 × MS)} (hf : f_X8_newButton l0 l1 l2 μ = some z) (hk : (fun z : Int32 × MS => r = some (.int z.1) ∧ μ' = z.2) z) : WW X D cy b r μ' 3 0 0 0 [(0, .ref (b + l0)), (1, .int l1), (2, .int l2)] [] μ := by
  unfold f_X8_newButton at hf
  refine r_aload_n hB 0 rfl (by decide +kernel : decode cX8_newButton 0 = .ok (.aload_n 0, 1)) rfl ?_
  refine r_dup hB (by decide +kernel : decode cX8_newButton 1 = .ok (.dup, 1)) rfl ?_
  refine r_gI hB cf8 4 (by decide) (own := "PulseRemote$Table") rfl (Or.inl k_178) (by decide +kernel) (by decide +kernel : decode cX8_newButton 2 = .ok (.getfield 39, 3)) hf (fun x2 hf => ?_)
  refine r_iconst hB (v := 1) (by decide +kernel : decode cX8_newButton 5 = .ok (.iconst 1, 1)) (by decide +kernel) ?_
  refine r_iadd hB (by decide +kernel : decode cX8_newButton 6 = .ok (.iadd, 1)) ?_
  refine r_pI hB cf8 4 (by decide) (own := "PulseRemote$Table") rfl (Or.inl k_178) (Or.inl rfl) rfl (by decide +kernel : decode cX8_newButton 7 = .ok (.putfield 39, 3)) hf (fun m7 hf => ?_)
  refine r_aload_n hB 0 rfl (by decide +kernel : decode cX8_newButton 10 = .ok (.aload_n 0, 1)) rfl ?_
  refine r_aload_n hB 0 rfl (by decide +kernel : decode cX8_newButton 11 = .ok (.aload_n 0, 1)) rfl ?_
  refine r_gI hB cf8 4 (by decide) (own := "PulseRemote$Table") rfl (Or.inl k_178) (by decide +kernel) (by decide +kernel : decode cX8_newButton 12 = .ok (.getfield 39, 3)) hf (fun x12 hf => ?_)
  refine r_iconst hB (v := 1) (by decide +kernel : decode cX8_newButton 15 = .ok (.iconst 1, 1)) (by decide +kernel) ?_
  refine r_isub hB (by decide +kernel : decode cX8_newButton 16 = .ok (.isub, 1)) ?_
  refine r_cVi hB [.int (x12 - 1)] [] cf8 (own := "PulseRemote$Table") rfl cmX8_hasButton imX8_hasButton (Or.inl k_693) (by decide) rfl rfl rfl (Nat.le_of_ble_eq_true rfl) (by decide +kernel : decode cX8_newButton 17 = .ok (.invokevirtual 54, 3)) (fun z hz => m_X8_hasButton _ _ _ _ hz) rfl hf (fun z17 hf => ?_)
  refine r_if_eq hB (tgt := 47) (by decide +kernel : decode cX8_newButton 20 = .ok (.ifCond .eq 27, 3)) (by decide) hf (fun _ hf => ?_) (fun _ hf => ?_)
  · exact WW.sub [0] rfl (t_X8_newButton_47 hB hf hk)
  · refine r_aload_n hB 0 rfl (by decide +kernel : decode cX8_newButton 23 = .ok (.aload_n 0, 1)) rfl ?_
    refine r_gR hB cf8 2 (by decide) (own := "PulseRemote$Table") rfl (Or.inl k_176) (by decide +kernel) (by decide +kernel : decode cX8_newButton 24 = .ok (.getfield 17, 3)) hf (fun x24 hf => ?_)
    refine r_aload_n hB 0 rfl (by decide +kernel : decode cX8_newButton 27 = .ok (.aload_n 0, 1)) rfl ?_
    refine r_gI hB cf8 4 (by decide) (own := "PulseRemote$Table") rfl (Or.inl k_178) (by decide +kernel) (by decide +kernel : decode cX8_newButton 28 = .ok (.getfield 39, 3)) hf (fun x28 hf => ?_)
    refine r_iconst hB (v := 1) (by decide +kernel : decode cX8_newButton 31 = .ok (.iconst 1, 1)) (by decide +kernel) ?_
    refine r_isub hB (by decide +kernel : decode cX8_newButton 32 = .ok (.isub, 1)) ?_
    refine r_iload_n hB 1 rfl (by decide +kernel : decode cX8_newButton 33 = .ok (.iload_n 1, 1)) rfl ?_
    refine r_iast hB (by decide +kernel : decode cX8_newButton 34 = .ok (.iastore, 1)) hf (fun m34 hf => ?_)
    refine r_aload_n hB 0 rfl (by decide +kernel : decode cX8_newButton 35 = .ok (.aload_n 0, 1)) rfl ?_
    refine r_gR hB cf8 3 (by decide) (own := "PulseRemote$Table") rfl (Or.inl k_177) (by decide +kernel) (by decide +kernel : decode cX8_newButton 36 = .ok (.getfield 21, 3)) hf (fun x36 hf => ?_)
    refine r_aload_n hB 0 rfl (by decide +kernel : decode cX8_newButton 39 = .ok (.aload_n 0, 1)) rfl ?_
    refine r_gI hB cf8 4 (by decide) (own := "PulseRemote$Table") rfl (Or.inl k_178) (by decide +kernel) (by decide +kernel : decode cX8_newButton 40 = .ok (.getfield 39, 3)) hf (fun x40 hf => ?_)
    refine r_iconst hB (v := 1) (by decide +kernel : decode cX8_newButton 43 = .ok (.iconst 1, 1)) (by decide +kernel) ?_
    refine r_isub hB (by decide +kernel : decode cX8_newButton 44 = .ok (.isub, 1)) ?_
    refine r_iload_n hB 2 rfl (by decide +kernel : decode cX8_newButton 45 = .ok (.iload_n 2, 1)) rfl ?_
    refine r_iast hB (by decide +kernel : decode cX8_newButton 46 = .ok (.iastore, 1)) hf (fun m46 hf => ?_)
    exact WW.sub [0] rfl (t_X8_newButton_47 hB hf hk)
theorem m_X8_newButton (l : Launch) (D : va_G) (cy : Nat → ClassId) (b : Nat) {l0 : Nat} {l1 : Int32} {l2 : Int32} {μ : MS} {z : Int32 × MS} (hf : f_X8_newButton l0 l1 l2 μ = some z) : Met l yX8_newButton (.code yX8_newButton cX8_newButton 3 (some .int) :: GW) rmX8_newButton (Pw D cy b [.ref (b + l0), .int l1, .int l2] μ) (Qw D cy b (some (.int z.1)) (z.2)) rmX8_newButton.cells rmX8_newButton.slots (fun q => b ≤ q) :=
  met_of (by decide) (Nat.le_of_ble_eq_true rfl) (fun X hB _ => (t_X8_newButton_0 hB hf ⟨rfl, rfl⟩))
-- PulseRemote.addButton(II)I
set_option maxHeartbeats 4000000 in
set_option maxRecDepth 100000 in
theorem t_X11_addButton_0 {X : BX} {D : va_G} {cy : Nat → ClassId} {b : Nat} {r : Option Value} {μ' : MS} (hB : BB X D cy b yX11_addButton cX11_addButton 5 (some .int) rmX11_addButton) {l0 : Nat} {l1 : Int32} {l2 : Int32} {μ : MS} {z : (Int32 × MS)} (hf : f_X11_addButton l0 l1 l2 μ = some z) (hk : (fun z : Int32 × MS => r = some (.int z.1) ∧ μ' = z.2) z) : WW X D cy b r μ' 5 0 0 0 [(0, .ref (b + l0)), (1, .int l1), (2, .int l2)] [] μ := by
  unfold f_X11_addButton at hf
  refine r_aload_n hB 0 rfl (by decide +kernel : decode cX11_addButton 0 = .ok (.aload_n 0, 1)) rfl ?_
  refine r_gR hB cf11 0 (by decide) (own := "PulseRemote") rfl (Or.inl k_465) (by decide +kernel) (by decide +kernel : decode cX11_addButton 1 = .ok (.getfield 12, 3)) hf (fun x1 hf => ?_)
  refine r_gR hB cf7 0 (by decide) (own := "PulseRemote") rfl (Or.inr ⟨_, k_212⟩) (by decide +kernel) (by decide +kernel : decode cX11_addButton 4 = .ok (.getfield 84, 3)) hf (fun x4 hf => ?_)
  refine r_astore_n hB (by decide +kernel : decode cX11_addButton 7 = .ok (.astore_n 3, 1)) rfl (by decide) rfl ?_
  refine ww_lv (lv' := [(3, .ref (b + x4)), (0, .ref (b + l0)), (1, .int l1), (2, .int l2)]) rfl ?_
  refine r_aload_n hB 0 rfl (by decide +kernel : decode cX11_addButton 8 = .ok (.aload_n 3, 1)) rfl ?_
  refine r_iload_n hB 2 rfl (by decide +kernel : decode cX11_addButton 9 = .ok (.iload_n 1, 1)) rfl ?_
  refine r_cVi hB [.int l1] [] cf8 (own := "PulseRemote") rfl cmX8_hasProtocol imX8_hasProtocol (Or.inl k_565) (by decide) rfl rfl rfl (Nat.le_of_ble_eq_true rfl) (by decide +kernel : decode cX11_addButton 10 = .ok (.invokevirtual 98, 3)) (fun z hz => m_X8_hasProtocol _ _ _ _ hz) rfl hf (fun z10 hf => ?_)
  refine r_if_eq hB (tgt := 28) (by decide +kernel : decode cX11_addButton 13 = .ok (.ifCond .eq 15, 3)) (by decide) hf (fun _ hf => ?_) (fun _ hf => ?_)
  · refine r_iconst hB (v := (-1)) (by decide +kernel : decode cX11_addButton 28 = .ok (.iconst (-1), 1)) (by decide +kernel) ?_
    obtain rfl := Option.some.inj hf
    obtain ⟨rfl, rfl⟩ := hk
    exact r_iret hB (by decide +kernel : decode cX11_addButton 29 = .ok (.ireturn, 1))
  · refine r_aload_n hB 0 rfl (by decide +kernel : decode cX11_addButton 16 = .ok (.aload_n 3, 1)) rfl ?_
    refine r_iload_n hB 2 rfl (by decide +kernel : decode cX11_addButton 17 = .ok (.iload_n 1, 1)) rfl ?_
    refine r_cVr hB [.int l1] [] cf8 (own := "PulseRemote") rfl cmX8_protocolAt imX8_protocolAt (Or.inl k_569) (by decide) rfl rfl rfl (Nat.le_of_ble_eq_true rfl) (by decide +kernel : decode cX11_addButton 18 = .ok (.invokevirtual 102, 3)) (fun z hz => m_X8_protocolAt _ _ _ _ hz) rfl hf (fun z18 hf => ?_)
    refine r_iload_n hB 3 rfl (by decide +kernel : decode cX11_addButton 21 = .ok (.iload_n 2, 1)) rfl ?_
    refine r_cVi hB [.int l2] [] cf6 (own := "PulseRemote") rfl cmX6_hasCode imX6_hasCode (Or.inl k_673) (by decide) rfl rfl rfl (Nat.le_of_ble_eq_true rfl) (by decide +kernel : decode cX11_addButton 22 = .ok (.invokevirtual 196, 3)) (fun z hz => m_X6_hasCode _ _ _ _ hz) rfl hf (fun z22 hf => ?_)
    refine r_if_ne hB (tgt := 30) (by decide +kernel : decode cX11_addButton 25 = .ok (.ifCond .ne 5, 3)) (by decide) hf (fun _ hf => ?_) (fun _ hf => ?_)
    · refine r_iconst hB (v := (-1)) (by decide +kernel : decode cX11_addButton 28 = .ok (.iconst (-1), 1)) (by decide +kernel) ?_
      obtain rfl := Option.some.inj hf
      obtain ⟨rfl, rfl⟩ := hk
      exact r_iret hB (by decide +kernel : decode cX11_addButton 29 = .ok (.ireturn, 1))
    · refine r_aload_n hB 0 rfl (by decide +kernel : decode cX11_addButton 30 = .ok (.aload_n 3, 1)) rfl ?_
      refine r_iload_n hB 2 rfl (by decide +kernel : decode cX11_addButton 31 = .ok (.iload_n 1, 1)) rfl ?_
      refine r_cVr hB [.int l1] [] cf8 (own := "PulseRemote") rfl cmX8_protocolAt imX8_protocolAt (Or.inl k_569) (by decide) rfl rfl rfl (Nat.le_of_ble_eq_true rfl) (by decide +kernel : decode cX11_addButton 32 = .ok (.invokevirtual 102, 3)) (fun z hz => m_X8_protocolAt _ _ _ _ hz) rfl hf (fun z32 hf => ?_)
      refine r_iload_n hB 3 rfl (by decide +kernel : decode cX11_addButton 35 = .ok (.iload_n 2, 1)) rfl ?_
      refine r_cVi hB [.int l2] [] cf6 (own := "PulseRemote") rfl cmX6_identityOf imX6_identityOf (Or.inl k_677) (by decide) rfl rfl rfl (Nat.le_of_ble_eq_true rfl) (by decide +kernel : decode cX11_addButton 36 = .ok (.invokevirtual 199, 3)) (fun z hz => m_X6_identityOf _ _ _ _ hz) rfl hf (fun z36 hf => ?_)
      refine r_istore hB (by decide +kernel : decode cX11_addButton 39 = .ok (.istore 4, 2)) (by decide) rfl ?_
      refine ww_lv (lv' := [(4, .int z36.1), (3, .ref (b + x4)), (0, .ref (b + l0)), (1, .int l1), (2, .int l2)]) rfl ?_
      refine r_aload_n hB 1 rfl (by decide +kernel : decode cX11_addButton 41 = .ok (.aload_n 3, 1)) rfl ?_
      refine r_iload_n hB 3 rfl (by decide +kernel : decode cX11_addButton 42 = .ok (.iload_n 1, 1)) rfl ?_
      refine r_iload hB 0 rfl (by decide +kernel : decode cX11_addButton 43 = .ok (.iload 4, 2)) ?_
      refine r_cVi hB [.int l1, .int z36.1] [] cf8 (own := "PulseRemote") rfl cmX8_findButton imX8_findButton (Or.inl k_685) (by decide) rfl rfl rfl (Nat.le_of_ble_eq_true rfl) (by decide +kernel : decode cX11_addButton 45 = .ok (.invokevirtual 203, 3)) (fun z hz => m_X8_findButton _ _ _ _ hz) rfl hf (fun z45 hf => ?_)
      refine r_bipush hB (v := (-9)) (by decide +kernel : decode cX11_addButton 48 = .ok (.bipush (-9), 2)) (by decide +kernel) ?_
      refine r_icmp_eq hB (tgt := 56) (by decide +kernel : decode cX11_addButton 50 = .ok (.if_icmp .eq 6, 3)) (by decide) hf (fun _ hf => ?_) (fun _ hf => ?_)
      · refine r_aload_n hB 1 rfl (by decide +kernel : decode cX11_addButton 56 = .ok (.aload_n 3, 1)) rfl ?_
        refine r_cVi hB [] [] cf8 (own := "PulseRemote") rfl cmX8_buttonsFull imX8_buttonsFull (Or.inl k_701) (by decide) rfl rfl rfl (Nat.le_of_ble_eq_true rfl) (by decide +kernel : decode cX11_addButton 57 = .ok (.invokevirtual 207, 3)) (fun z hz => m_X8_buttonsFull _ _ _ _ hz) rfl hf (fun z57 hf => ?_)
        refine r_if_eq hB (tgt := 66) (by decide +kernel : decode cX11_addButton 60 = .ok (.ifCond .eq 6, 3)) (by decide) hf (fun _ hf => ?_) (fun _ hf => ?_)
        · refine r_aload_n hB 2 rfl (by decide +kernel : decode cX11_addButton 66 = .ok (.aload_n 0, 1)) rfl ?_
          refine r_cVv hB [] [] cf11 (own := "PulseRemote") rfl cmX11_saveState imX11_saveState (Or.inl k_513) (by decide) rfl rfl rfl (Nat.le_of_ble_eq_true rfl) (by decide +kernel : decode cX11_addButton 67 = .ok (.invokevirtual 91, 3)) (fun z hz => m_X11_saveState _ _ _ _ hz) rfl hf (fun z67 hf => ?_)
          refine r_aload_n hB 1 rfl (by decide +kernel : decode cX11_addButton 70 = .ok (.aload_n 3, 1)) rfl ?_
          refine r_iload_n hB 3 rfl (by decide +kernel : decode cX11_addButton 71 = .ok (.iload_n 1, 1)) rfl ?_
          refine r_iload hB 0 rfl (by decide +kernel : decode cX11_addButton 72 = .ok (.iload 4, 2)) ?_
          refine r_cVi hB [.int l1, .int z36.1] [] cf8 (own := "PulseRemote") rfl cmX8_newButton imX8_newButton (Or.inl k_705) (by decide) rfl rfl rfl (Nat.le_of_ble_eq_true rfl) (by decide +kernel : decode cX11_addButton 74 = .ok (.invokevirtual 210, 3)) (fun z hz => m_X8_newButton _ _ _ _ hz) rfl hf (fun z74 hf => ?_)
          obtain rfl := Option.some.inj hf
          obtain ⟨rfl, rfl⟩ := hk
          exact r_iret hB (by decide +kernel : decode cX11_addButton 77 = .ok (.ireturn, 1))
        · refine r_bipush hB (v := (-3)) (by decide +kernel : decode cX11_addButton 63 = .ok (.bipush (-3), 2)) (by decide +kernel) ?_
          obtain rfl := Option.some.inj hf
          obtain ⟨rfl, rfl⟩ := hk
          exact r_iret hB (by decide +kernel : decode cX11_addButton 65 = .ok (.ireturn, 1))
      · refine r_bipush hB (v := (-2)) (by decide +kernel : decode cX11_addButton 53 = .ok (.bipush (-2), 2)) (by decide +kernel) ?_
        obtain rfl := Option.some.inj hf
        obtain ⟨rfl, rfl⟩ := hk
        exact r_iret hB (by decide +kernel : decode cX11_addButton 55 = .ok (.ireturn, 1))
theorem m_X11_addButton (l : Launch) (D : va_G) (cy : Nat → ClassId) (b : Nat) {l0 : Nat} {l1 : Int32} {l2 : Int32} {μ : MS} {z : Int32 × MS} (hf : f_X11_addButton l0 l1 l2 μ = some z) : Met l yX11_addButton (.code yX11_addButton cX11_addButton 5 (some .int) :: GW) rmX11_addButton (Pw D cy b [.ref (b + l0), .int l1, .int l2] μ) (Qw D cy b (some (.int z.1)) (z.2)) rmX11_addButton.cells rmX11_addButton.slots (fun q => b ≤ q) :=
  met_of (by decide) (Nat.le_of_ble_eq_true rfl) (fun X hB _ => (t_X11_addButton_0 hB hf ⟨rfl, rfl⟩))
-- PulseRemote.button(II)I
set_option maxHeartbeats 4000000 in
set_option maxRecDepth 100000 in
theorem t_X11_button_0 {X : BX} {D : va_G} {cy : Nat → ClassId} {b : Nat} {r : Option Value} {μ' : MS} (hB : BB X D cy b yX11_button cX11_button 3 (some .int) rmX11_button) {l0 : Nat} {l1 : Int32} {l2 : Int32} {μ : MS} {z : (Int32 × MS)} (hf : f_X11_button l0 l1 l2 μ = some z) (hk : (fun z : Int32 × MS => r = some (.int z.1) ∧ μ' = z.2) z) : WW X D cy b r μ' 3 0 0 0 [(0, .ref (b + l0)), (1, .int l1), (2, .int l2)] [] μ := by
  unfold f_X11_button at hf
  refine r_aload_n hB 0 rfl (by decide +kernel : decode cX11_button 0 = .ok (.aload_n 0, 1)) rfl ?_
  refine r_gR hB cf11 0 (by decide) (own := "PulseRemote") rfl (Or.inl k_465) (by decide +kernel) (by decide +kernel : decode cX11_button 1 = .ok (.getfield 12, 3)) hf (fun x1 hf => ?_)
  refine r_gR hB cf7 0 (by decide) (own := "PulseRemote") rfl (Or.inr ⟨_, k_212⟩) (by decide +kernel) (by decide +kernel : decode cX11_button 4 = .ok (.getfield 84, 3)) hf (fun x4 hf => ?_)
  refine r_iload_n hB 1 rfl (by decide +kernel : decode cX11_button 7 = .ok (.iload_n 1, 1)) rfl ?_
  refine r_cVi hB [.int l1] [] cf8 (own := "PulseRemote") rfl cmX8_hasButton imX8_hasButton (Or.inl k_713) (by decide) rfl rfl rfl (Nat.le_of_ble_eq_true rfl) (by decide +kernel : decode cX11_button 8 = .ok (.invokevirtual 213, 3)) (fun z hz => m_X8_hasButton _ _ _ _ hz) rfl hf (fun z8 hf => ?_)
  refine r_if_eq hB (tgt := 23) (by decide +kernel : decode cX11_button 11 = .ok (.ifCond .eq 12, 3)) (by decide) hf (fun _ hf => ?_) (fun _ hf => ?_)
  · refine r_iconst hB (v := (-1)) (by decide +kernel : decode cX11_button 23 = .ok (.iconst (-1), 1)) (by decide +kernel) ?_
    obtain rfl := Option.some.inj hf
    obtain ⟨rfl, rfl⟩ := hk
    exact r_iret hB (by decide +kernel : decode cX11_button 24 = .ok (.ireturn, 1))
  · refine r_iload_n hB 2 rfl (by decide +kernel : decode cX11_button 14 = .ok (.iload_n 2, 1)) rfl ?_
    refine r_iconst hB (v := 0) (by decide +kernel : decode cX11_button 15 = .ok (.iconst 0, 1)) (by decide +kernel) ?_
    refine r_iconst hB (v := 1) (by decide +kernel : decode cX11_button 16 = .ok (.iconst 1, 1)) (by decide +kernel) ?_
    refine r_cSi hB [.int l2, .int 0, .int 1] [] (own := "PulseRemote") rfl cmX11_inRange smX11_inRange (Or.inl ⟨rfl, k_506⟩) (by decide) rfl rfl rfl (Nat.le_of_ble_eq_true rfl) (by decide +kernel : decode cX11_button 17 = .ok (.invokestatic 80, 3)) (fun z hz => m_X11_inRange _ _ _ _ hz) rfl hf (fun z17 hf => ?_)
    refine r_if_ne hB (tgt := 25) (by decide +kernel : decode cX11_button 20 = .ok (.ifCond .ne 5, 3)) (by decide) hf (fun _ hf => ?_) (fun _ hf => ?_)
    · refine r_iconst hB (v := (-1)) (by decide +kernel : decode cX11_button 23 = .ok (.iconst (-1), 1)) (by decide +kernel) ?_
      obtain rfl := Option.some.inj hf
      obtain ⟨rfl, rfl⟩ := hk
      exact r_iret hB (by decide +kernel : decode cX11_button 24 = .ok (.ireturn, 1))
    · refine r_iload_n hB 2 rfl (by decide +kernel : decode cX11_button 25 = .ok (.iload_n 2, 1)) rfl ?_
      refine r_if_ne hB (tgt := 43) (by decide +kernel : decode cX11_button 26 = .ok (.ifCond .ne 17, 3)) (by decide) hf (fun _ hf => ?_) (fun _ hf => ?_)
      · refine r_aload_n hB 0 rfl (by decide +kernel : decode cX11_button 29 = .ok (.aload_n 0, 1)) rfl ?_
        refine r_gR hB cf11 0 (by decide) (own := "PulseRemote") rfl (Or.inl k_465) (by decide +kernel) (by decide +kernel : decode cX11_button 30 = .ok (.getfield 12, 3)) hf (fun x30 hf => ?_)
        refine r_gR hB cf7 0 (by decide) (own := "PulseRemote") rfl (Or.inr ⟨_, k_212⟩) (by decide +kernel) (by decide +kernel : decode cX11_button 33 = .ok (.getfield 84, 3)) hf (fun x33 hf => ?_)
        refine r_iload_n hB 1 rfl (by decide +kernel : decode cX11_button 36 = .ok (.iload_n 1, 1)) rfl ?_
        refine r_cVi hB [.int l1] [] cf8 (own := "PulseRemote") rfl cmX8_protocolOfButton imX8_protocolOfButton (Or.inl k_714) (by decide) rfl rfl rfl (Nat.le_of_ble_eq_true rfl) (by decide +kernel : decode cX11_button 37 = .ok (.invokevirtual 216, 3)) (fun z hz => m_X8_protocolOfButton _ _ _ _ hz) rfl hf (fun z37 hf => ?_)
        refine r_goto hB (tgt := 54) (by decide +kernel : decode cX11_button 40 = .ok (.goto 14, 3)) (by decide) ?_
        obtain rfl := Option.some.inj hf
        obtain ⟨rfl, rfl⟩ := hk
        exact r_iret hB (by decide +kernel : decode cX11_button 54 = .ok (.ireturn, 1))
      · refine r_aload_n hB 0 rfl (by decide +kernel : decode cX11_button 43 = .ok (.aload_n 0, 1)) rfl ?_
        refine r_gR hB cf11 0 (by decide) (own := "PulseRemote") rfl (Or.inl k_465) (by decide +kernel) (by decide +kernel : decode cX11_button 44 = .ok (.getfield 12, 3)) hf (fun x44 hf => ?_)
        refine r_gR hB cf7 0 (by decide) (own := "PulseRemote") rfl (Or.inr ⟨_, k_212⟩) (by decide +kernel) (by decide +kernel : decode cX11_button 47 = .ok (.getfield 84, 3)) hf (fun x47 hf => ?_)
        refine r_iload_n hB 1 rfl (by decide +kernel : decode cX11_button 50 = .ok (.iload_n 1, 1)) rfl ?_
        refine r_cVi hB [.int l1] [] cf8 (own := "PulseRemote") rfl cmX8_identityOfButton imX8_identityOfButton (Or.inl k_715) (by decide) rfl rfl rfl (Nat.le_of_ble_eq_true rfl) (by decide +kernel : decode cX11_button 51 = .ok (.invokevirtual 219, 3)) (fun z hz => m_X8_identityOfButton _ _ _ _ hz) rfl hf (fun z51 hf => ?_)
        obtain rfl := Option.some.inj hf
        obtain ⟨rfl, rfl⟩ := hk
        exact r_iret hB (by decide +kernel : decode cX11_button 54 = .ok (.ireturn, 1))
theorem m_X11_button (l : Launch) (D : va_G) (cy : Nat → ClassId) (b : Nat) {l0 : Nat} {l1 : Int32} {l2 : Int32} {μ : MS} {z : Int32 × MS} (hf : f_X11_button l0 l1 l2 μ = some z) : Met l yX11_button (.code yX11_button cX11_button 3 (some .int) :: GW) rmX11_button (Pw D cy b [.ref (b + l0), .int l1, .int l2] μ) (Qw D cy b (some (.int z.1)) (z.2)) rmX11_button.cells rmX11_button.slots (fun q => b ≤ q) :=
  met_of (by decide) (Nat.le_of_ble_eq_true rfl) (fun X hB _ => (t_X11_button_0 hB hf ⟨rfl, rfl⟩))
-- PulseRemote.setGap(I)I
set_option maxHeartbeats 4000000 in
set_option maxRecDepth 100000 in
theorem t_X11_setGap_0 {X : BX} {D : va_G} {cy : Nat → ClassId} {b : Nat} {r : Option Value} {μ' : MS} (hB : BB X D cy b yX11_setGap cX11_setGap 3 (some .int) rmX11_setGap) {l0 : Nat} {l1 : Int32} {μ : MS} {z : (Int32 × MS)} (hf : f_X11_setGap l0 l1 μ = some z) (hk : (fun z : Int32 × MS => r = some (.int z.1) ∧ μ' = z.2) z) : WW X D cy b r μ' 3 0 0 0 [(0, .ref (b + l0)), (1, .int l1)] [] μ := by
  unfold f_X11_setGap at hf
  refine r_iload_n hB 1 rfl (by decide +kernel : decode cX11_setGap 0 = .ok (.iload_n 1, 1)) rfl ?_
  refine r_sipush hB (v := 1000) (by decide +kernel : decode cX11_setGap 1 = .ok (.sipush 1000, 3)) (by decide +kernel) ?_
  refine r_ldc hB (v := 60000) (own := "PulseRemote") rfl k_720 (by decide +kernel : decode cX11_setGap 4 = .ok (.ldc 222, 2)) ?_
  refine r_cSi hB [.int l1, .int 1000, .int 60000] [] (own := "PulseRemote") rfl cmX11_inRange smX11_inRange (Or.inl ⟨rfl, k_506⟩) (by decide) rfl rfl rfl (Nat.le_of_ble_eq_true rfl) (by decide +kernel : decode cX11_setGap 6 = .ok (.invokestatic 80, 3)) (fun z hz => m_X11_inRange _ _ _ _ hz) rfl hf (fun z6 hf => ?_)
  refine r_if_ne hB (tgt := 14) (by decide +kernel : decode cX11_setGap 9 = .ok (.ifCond .ne 5, 3)) (by decide) hf (fun _ hf => ?_) (fun _ hf => ?_)
  · refine r_iconst hB (v := (-1)) (by decide +kernel : decode cX11_setGap 12 = .ok (.iconst (-1), 1)) (by decide +kernel) ?_
    obtain rfl := Option.some.inj hf
    obtain ⟨rfl, rfl⟩ := hk
    exact r_iret hB (by decide +kernel : decode cX11_setGap 13 = .ok (.ireturn, 1))
  · refine r_aload_n hB 0 rfl (by decide +kernel : decode cX11_setGap 14 = .ok (.aload_n 0, 1)) rfl ?_
    refine r_cVv hB [] [] cf11 (own := "PulseRemote") rfl cmX11_saveState imX11_saveState (Or.inl k_513) (by decide) rfl rfl rfl (Nat.le_of_ble_eq_true rfl) (by decide +kernel : decode cX11_setGap 15 = .ok (.invokevirtual 91, 3)) (fun z hz => m_X11_saveState _ _ _ _ hz) rfl hf (fun z15 hf => ?_)
    refine r_aload_n hB 0 rfl (by decide +kernel : decode cX11_setGap 18 = .ok (.aload_n 0, 1)) rfl ?_
    refine r_gR hB cf11 0 (by decide) (own := "PulseRemote") rfl (Or.inl k_465) (by decide +kernel) (by decide +kernel : decode cX11_setGap 19 = .ok (.getfield 12, 3)) hf (fun x19 hf => ?_)
    refine r_gI hB cf7 2 (by decide) (own := "PulseRemote") rfl (Or.inr ⟨_, k_216⟩) (by decide +kernel) (by decide +kernel : decode cX11_setGap 22 = .ok (.getfield 163, 3)) hf (fun x22 hf => ?_)
    refine r_istore_n hB (by decide +kernel : decode cX11_setGap 25 = .ok (.istore_n 2, 1)) rfl (by decide) rfl ?_
    refine ww_lv (lv' := [(2, .int x22), (0, .ref (b + l0)), (1, .int l1)]) rfl ?_
    refine r_aload_n hB 1 rfl (by decide +kernel : decode cX11_setGap 26 = .ok (.aload_n 0, 1)) rfl ?_
    refine r_gR hB cf11 0 (by decide) (own := "PulseRemote") rfl (Or.inl k_465) (by decide +kernel) (by decide +kernel : decode cX11_setGap 27 = .ok (.getfield 12, 3)) hf (fun x27 hf => ?_)
    refine r_iload_n hB 2 rfl (by decide +kernel : decode cX11_setGap 30 = .ok (.iload_n 1, 1)) rfl ?_
    refine r_pI hB cf7 2 (by decide) (own := "PulseRemote") rfl (Or.inr ⟨_, k_216⟩) (Or.inl rfl) rfl (by decide +kernel : decode cX11_setGap 31 = .ok (.putfield 163, 3)) hf (fun m31 hf => ?_)
    refine r_iload_n hB 0 rfl (by decide +kernel : decode cX11_setGap 34 = .ok (.iload_n 2, 1)) rfl ?_
    obtain rfl := Option.some.inj hf
    obtain ⟨rfl, rfl⟩ := hk
    exact r_iret hB (by decide +kernel : decode cX11_setGap 35 = .ok (.ireturn, 1))
theorem m_X11_setGap (l : Launch) (D : va_G) (cy : Nat → ClassId) (b : Nat) {l0 : Nat} {l1 : Int32} {μ : MS} {z : Int32 × MS} (hf : f_X11_setGap l0 l1 μ = some z) : Met l yX11_setGap (.code yX11_setGap cX11_setGap 3 (some .int) :: GW) rmX11_setGap (Pw D cy b [.ref (b + l0), .int l1] μ) (Qw D cy b (some (.int z.1)) (z.2)) rmX11_setGap.cells rmX11_setGap.slots (fun q => b ≤ q) :=
  met_of (by decide) (Nat.le_of_ble_eq_true rfl) (fun X hB _ => (t_X11_setGap_0 hB hf ⟨rfl, rfl⟩))
-- PulseRemote.setHold(I)I
set_option maxHeartbeats 4000000 in
set_option maxRecDepth 100000 in
theorem t_X11_setHold_0 {X : BX} {D : va_G} {cy : Nat → ClassId} {b : Nat} {r : Option Value} {μ' : MS} (hB : BB X D cy b yX11_setHold cX11_setHold 3 (some .int) rmX11_setHold) {l0 : Nat} {l1 : Int32} {μ : MS} {z : (Int32 × MS)} (hf : f_X11_setHold l0 l1 μ = some z) (hk : (fun z : Int32 × MS => r = some (.int z.1) ∧ μ' = z.2) z) : WW X D cy b r μ' 3 0 0 0 [(0, .ref (b + l0)), (1, .int l1)] [] μ := by
  unfold f_X11_setHold at hf
  refine r_iload_n hB 1 rfl (by decide +kernel : decode cX11_setHold 0 = .ok (.iload_n 1, 1)) rfl ?_
  refine r_sipush hB (v := 1000) (by decide +kernel : decode cX11_setHold 1 = .ok (.sipush 1000, 3)) (by decide +kernel) ?_
  refine r_ldc hB (v := 60000) (own := "PulseRemote") rfl k_720 (by decide +kernel : decode cX11_setHold 4 = .ok (.ldc 222, 2)) ?_
  refine r_cSi hB [.int l1, .int 1000, .int 60000] [] (own := "PulseRemote") rfl cmX11_inRange smX11_inRange (Or.inl ⟨rfl, k_506⟩) (by decide) rfl rfl rfl (Nat.le_of_ble_eq_true rfl) (by decide +kernel : decode cX11_setHold 6 = .ok (.invokestatic 80, 3)) (fun z hz => m_X11_inRange _ _ _ _ hz) rfl hf (fun z6 hf => ?_)
  refine r_if_ne hB (tgt := 14) (by decide +kernel : decode cX11_setHold 9 = .ok (.ifCond .ne 5, 3)) (by decide) hf (fun _ hf => ?_) (fun _ hf => ?_)
  · refine r_iconst hB (v := (-1)) (by decide +kernel : decode cX11_setHold 12 = .ok (.iconst (-1), 1)) (by decide +kernel) ?_
    obtain rfl := Option.some.inj hf
    obtain ⟨rfl, rfl⟩ := hk
    exact r_iret hB (by decide +kernel : decode cX11_setHold 13 = .ok (.ireturn, 1))
  · refine r_aload_n hB 0 rfl (by decide +kernel : decode cX11_setHold 14 = .ok (.aload_n 0, 1)) rfl ?_
    refine r_cVv hB [] [] cf11 (own := "PulseRemote") rfl cmX11_saveState imX11_saveState (Or.inl k_513) (by decide) rfl rfl rfl (Nat.le_of_ble_eq_true rfl) (by decide +kernel : decode cX11_setHold 15 = .ok (.invokevirtual 91, 3)) (fun z hz => m_X11_saveState _ _ _ _ hz) rfl hf (fun z15 hf => ?_)
    refine r_aload_n hB 0 rfl (by decide +kernel : decode cX11_setHold 18 = .ok (.aload_n 0, 1)) rfl ?_
    refine r_gR hB cf11 0 (by decide) (own := "PulseRemote") rfl (Or.inl k_465) (by decide +kernel) (by decide +kernel : decode cX11_setHold 19 = .ok (.getfield 12, 3)) hf (fun x19 hf => ?_)
    refine r_gI hB cf7 3 (by decide) (own := "PulseRemote") rfl (Or.inr ⟨_, k_219⟩) (by decide +kernel) (by decide +kernel : decode cX11_setHold 22 = .ok (.getfield 223, 3)) hf (fun x22 hf => ?_)
    refine r_istore_n hB (by decide +kernel : decode cX11_setHold 25 = .ok (.istore_n 2, 1)) rfl (by decide) rfl ?_
    refine ww_lv (lv' := [(2, .int x22), (0, .ref (b + l0)), (1, .int l1)]) rfl ?_
    refine r_aload_n hB 1 rfl (by decide +kernel : decode cX11_setHold 26 = .ok (.aload_n 0, 1)) rfl ?_
    refine r_gR hB cf11 0 (by decide) (own := "PulseRemote") rfl (Or.inl k_465) (by decide +kernel) (by decide +kernel : decode cX11_setHold 27 = .ok (.getfield 12, 3)) hf (fun x27 hf => ?_)
    refine r_iload_n hB 2 rfl (by decide +kernel : decode cX11_setHold 30 = .ok (.iload_n 1, 1)) rfl ?_
    refine r_pI hB cf7 3 (by decide) (own := "PulseRemote") rfl (Or.inr ⟨_, k_219⟩) (Or.inl rfl) rfl (by decide +kernel : decode cX11_setHold 31 = .ok (.putfield 223, 3)) hf (fun m31 hf => ?_)
    refine r_iload_n hB 0 rfl (by decide +kernel : decode cX11_setHold 34 = .ok (.iload_n 2, 1)) rfl ?_
    obtain rfl := Option.some.inj hf
    obtain ⟨rfl, rfl⟩ := hk
    exact r_iret hB (by decide +kernel : decode cX11_setHold 35 = .ok (.ireturn, 1))
theorem m_X11_setHold (l : Launch) (D : va_G) (cy : Nat → ClassId) (b : Nat) {l0 : Nat} {l1 : Int32} {μ : MS} {z : Int32 × MS} (hf : f_X11_setHold l0 l1 μ = some z) : Met l yX11_setHold (.code yX11_setHold cX11_setHold 3 (some .int) :: GW) rmX11_setHold (Pw D cy b [.ref (b + l0), .int l1] μ) (Qw D cy b (some (.int z.1)) (z.2)) rmX11_setHold.cells rmX11_setHold.slots (fun q => b ≤ q) :=
  met_of (by decide) (Nat.le_of_ble_eq_true rfl) (fun X hB _ => (t_X11_setHold_0 hB hf ⟨rfl, rfl⟩))
-- PulseRemote.setTolerance(I)I
set_option maxHeartbeats 4000000 in
set_option maxRecDepth 100000 in
theorem t_X11_setTolerance_0 {X : BX} {D : va_G} {cy : Nat → ClassId} {b : Nat} {r : Option Value} {μ' : MS} (hB : BB X D cy b yX11_setTolerance cX11_setTolerance 3 (some .int) rmX11_setTolerance) {l0 : Nat} {l1 : Int32} {μ : MS} {z : (Int32 × MS)} (hf : f_X11_setTolerance l0 l1 μ = some z) (hk : (fun z : Int32 × MS => r = some (.int z.1) ∧ μ' = z.2) z) : WW X D cy b r μ' 3 0 0 0 [(0, .ref (b + l0)), (1, .int l1)] [] μ := by
  unfold f_X11_setTolerance at hf
  refine r_iload_n hB 1 rfl (by decide +kernel : decode cX11_setTolerance 0 = .ok (.iload_n 1, 1)) rfl ?_
  refine r_iconst hB (v := 0) (by decide +kernel : decode cX11_setTolerance 1 = .ok (.iconst 0, 1)) (by decide +kernel) ?_
  refine r_bipush hB (v := 40) (by decide +kernel : decode cX11_setTolerance 2 = .ok (.bipush 40, 2)) (by decide +kernel) ?_
  refine r_cSi hB [.int l1, .int 0, .int 40] [] (own := "PulseRemote") rfl cmX11_inRange smX11_inRange (Or.inl ⟨rfl, k_506⟩) (by decide) rfl rfl rfl (Nat.le_of_ble_eq_true rfl) (by decide +kernel : decode cX11_setTolerance 4 = .ok (.invokestatic 80, 3)) (fun z hz => m_X11_inRange _ _ _ _ hz) rfl hf (fun z4 hf => ?_)
  refine r_if_ne hB (tgt := 12) (by decide +kernel : decode cX11_setTolerance 7 = .ok (.ifCond .ne 5, 3)) (by decide) hf (fun _ hf => ?_) (fun _ hf => ?_)
  · refine r_iconst hB (v := (-1)) (by decide +kernel : decode cX11_setTolerance 10 = .ok (.iconst (-1), 1)) (by decide +kernel) ?_
    obtain rfl := Option.some.inj hf
    obtain ⟨rfl, rfl⟩ := hk
    exact r_iret hB (by decide +kernel : decode cX11_setTolerance 11 = .ok (.ireturn, 1))
  · refine r_aload_n hB 0 rfl (by decide +kernel : decode cX11_setTolerance 12 = .ok (.aload_n 0, 1)) rfl ?_
    refine r_cVv hB [] [] cf11 (own := "PulseRemote") rfl cmX11_saveState imX11_saveState (Or.inl k_513) (by decide) rfl rfl rfl (Nat.le_of_ble_eq_true rfl) (by decide +kernel : decode cX11_setTolerance 13 = .ok (.invokevirtual 91, 3)) (fun z hz => m_X11_saveState _ _ _ _ hz) rfl hf (fun z13 hf => ?_)
    refine r_aload_n hB 0 rfl (by decide +kernel : decode cX11_setTolerance 16 = .ok (.aload_n 0, 1)) rfl ?_
    refine r_gR hB cf11 0 (by decide) (own := "PulseRemote") rfl (Or.inl k_465) (by decide +kernel) (by decide +kernel : decode cX11_setTolerance 17 = .ok (.getfield 12, 3)) hf (fun x17 hf => ?_)
    refine r_gI hB cf7 4 (by decide) (own := "PulseRemote") rfl (Or.inr ⟨_, k_222⟩) (by decide +kernel) (by decide +kernel : decode cX11_setTolerance 20 = .ok (.getfield 226, 3)) hf (fun x20 hf => ?_)
    refine r_istore_n hB (by decide +kernel : decode cX11_setTolerance 23 = .ok (.istore_n 2, 1)) rfl (by decide) rfl ?_
    refine ww_lv (lv' := [(2, .int x20), (0, .ref (b + l0)), (1, .int l1)]) rfl ?_
    refine r_aload_n hB 1 rfl (by decide +kernel : decode cX11_setTolerance 24 = .ok (.aload_n 0, 1)) rfl ?_
    refine r_gR hB cf11 0 (by decide) (own := "PulseRemote") rfl (Or.inl k_465) (by decide +kernel) (by decide +kernel : decode cX11_setTolerance 25 = .ok (.getfield 12, 3)) hf (fun x25 hf => ?_)
    refine r_iload_n hB 2 rfl (by decide +kernel : decode cX11_setTolerance 28 = .ok (.iload_n 1, 1)) rfl ?_
    refine r_pI hB cf7 4 (by decide) (own := "PulseRemote") rfl (Or.inr ⟨_, k_222⟩) (Or.inl rfl) rfl (by decide +kernel : decode cX11_setTolerance 29 = .ok (.putfield 226, 3)) hf (fun m29 hf => ?_)
    refine r_iload_n hB 0 rfl (by decide +kernel : decode cX11_setTolerance 32 = .ok (.iload_n 2, 1)) rfl ?_
    obtain rfl := Option.some.inj hf
    obtain ⟨rfl, rfl⟩ := hk
    exact r_iret hB (by decide +kernel : decode cX11_setTolerance 33 = .ok (.ireturn, 1))
theorem m_X11_setTolerance (l : Launch) (D : va_G) (cy : Nat → ClassId) (b : Nat) {l0 : Nat} {l1 : Int32} {μ : MS} {z : Int32 × MS} (hf : f_X11_setTolerance l0 l1 μ = some z) : Met l yX11_setTolerance (.code yX11_setTolerance cX11_setTolerance 3 (some .int) :: GW) rmX11_setTolerance (Pw D cy b [.ref (b + l0), .int l1] μ) (Qw D cy b (some (.int z.1)) (z.2)) rmX11_setTolerance.cells rmX11_setTolerance.slots (fun q => b ≤ q) :=
  met_of (by decide) (Nat.le_of_ble_eq_true rfl) (fun X hB _ => (t_X11_setTolerance_0 hB hf ⟨rfl, rfl⟩))
-- PulseRemote$Text.put(C)V
set_option maxHeartbeats 4000000 in
set_option maxRecDepth 100000 in
theorem t_X9_put_0 {X : BX} {D : va_G} {cy : Nat → ClassId} {b : Nat} {r : Option Value} {μ' : MS} (hB : BB X D cy b yX9_put cX9_put 2 none rmX9_put) {l0 : Nat} {l1 : Int32} {μ : MS} {z : MS} (hf : f_X9_put l0 l1 μ = some z) (hk : (fun z : MS => r = none ∧ μ' = z) z) : WW X D cy b r μ' 2 0 0 0 [(0, .ref (b + l0)), (1, .int l1)] [] μ := by
  unfold f_X9_put at hf
  refine r_aload_n hB 0 rfl (by decide +kernel : decode cX9_put 0 = .ok (.aload_n 0, 1)) rfl ?_
  refine r_gI hB cf9 1 (by decide) (own := "PulseRemote$Text") rfl (Or.inl k_242) (by decide +kernel) (by decide +kernel : decode cX9_put 1 = .ok (.getfield 15, 3)) hf (fun x1 hf => ?_)
  refine r_if_lt hB (tgt := 37) (by decide +kernel : decode cX9_put 4 = .ok (.ifCond .lt 33, 3)) (by decide) hf (fun _ hf => ?_) (fun _ hf => ?_)
  · obtain rfl := Option.some.inj hf
    obtain ⟨rfl, rfl⟩ := hk
    exact r_vret hB (by decide +kernel : decode cX9_put 37 = .ok (.return_, 1))
  · refine r_aload_n hB 0 rfl (by decide +kernel : decode cX9_put 7 = .ok (.aload_n 0, 1)) rfl ?_
    refine r_gI hB cf9 1 (by decide) (own := "PulseRemote$Text") rfl (Or.inl k_242) (by decide +kernel) (by decide +kernel : decode cX9_put 8 = .ok (.getfield 15, 3)) hf (fun x8 hf => ?_)
    refine r_sipush hB (v := 160) (by decide +kernel : decode cX9_put 11 = .ok (.sipush 160, 3)) (by decide +kernel) ?_
    refine r_icmp_ge hB (tgt := 37) (by decide +kernel : decode cX9_put 14 = .ok (.if_icmp .ge 23, 3)) (by decide) hf (fun _ hf => ?_) (fun _ hf => ?_)
    · obtain rfl := Option.some.inj hf
      obtain ⟨rfl, rfl⟩ := hk
      exact r_vret hB (by decide +kernel : decode cX9_put 37 = .ok (.return_, 1))
    · refine r_aload_n hB 0 rfl (by decide +kernel : decode cX9_put 17 = .ok (.aload_n 0, 1)) rfl ?_
      refine r_gR hB cf9 0 (by decide) (own := "PulseRemote$Text") rfl (Or.inl k_241) (by decide +kernel) (by decide +kernel : decode cX9_put 18 = .ok (.getfield 9, 3)) hf (fun x18 hf => ?_)
      refine r_aload_n hB 0 rfl (by decide +kernel : decode cX9_put 21 = .ok (.aload_n 0, 1)) rfl ?_
      refine r_gI hB cf9 1 (by decide) (own := "PulseRemote$Text") rfl (Or.inl k_242) (by decide +kernel) (by decide +kernel : decode cX9_put 22 = .ok (.getfield 15, 3)) hf (fun x22 hf => ?_)
      refine r_iload_n hB 1 rfl (by decide +kernel : decode cX9_put 25 = .ok (.iload_n 1, 1)) rfl ?_
      refine r_cast hB (by decide +kernel : decode cX9_put 26 = .ok (.castore, 1)) hf (fun m26 hf => ?_)
      refine r_aload_n hB 0 rfl (by decide +kernel : decode cX9_put 27 = .ok (.aload_n 0, 1)) rfl ?_
      refine r_dup hB (by decide +kernel : decode cX9_put 28 = .ok (.dup, 1)) rfl ?_
      refine r_gI hB cf9 1 (by decide) (own := "PulseRemote$Text") rfl (Or.inl k_242) (by decide +kernel) (by decide +kernel : decode cX9_put 29 = .ok (.getfield 15, 3)) hf (fun x29 hf => ?_)
      refine r_iconst hB (v := 1) (by decide +kernel : decode cX9_put 32 = .ok (.iconst 1, 1)) (by decide +kernel) ?_
      refine r_iadd hB (by decide +kernel : decode cX9_put 33 = .ok (.iadd, 1)) ?_
      refine r_pI hB cf9 1 (by decide) (own := "PulseRemote$Text") rfl (Or.inl k_242) (Or.inl rfl) rfl (by decide +kernel : decode cX9_put 34 = .ok (.putfield 15, 3)) hf (fun m34 hf => ?_)
      obtain rfl := Option.some.inj hf
      obtain ⟨rfl, rfl⟩ := hk
      exact r_vret hB (by decide +kernel : decode cX9_put 37 = .ok (.return_, 1))
theorem m_X9_put (l : Launch) (D : va_G) (cy : Nat → ClassId) (b : Nat) {l0 : Nat} {l1 : Int32} {μ : MS} {z : MS} (hf : f_X9_put l0 l1 μ = some z) : Met l yX9_put (.code yX9_put cX9_put 2 none :: GW) rmX9_put (Pw D cy b [.ref (b + l0), .int l1] μ) (Qw D cy b (none) (z)) rmX9_put.cells rmX9_put.slots (fun q => b ≤ q) :=
  met_of (by decide) (Nat.le_of_ble_eq_true rfl) (fun X hB _ => (t_X9_put_0 hB hf ⟨rfl, rfl⟩))
-- PulseRemote.appendCharacter(I)I
set_option maxHeartbeats 4000000 in
set_option maxRecDepth 100000 in
theorem t_X11_appendCharacter_0 {X : BX} {D : va_G} {cy : Nat → ClassId} {b : Nat} {r : Option Value} {μ' : MS} (hB : BB X D cy b yX11_appendCharacter cX11_appendCharacter 2 (some .int) rmX11_appendCharacter) {l0 : Nat} {l1 : Int32} {μ : MS} {z : (Int32 × MS)} (hf : f_X11_appendCharacter l0 l1 μ = some z) (hk : (fun z : Int32 × MS => r = some (.int z.1) ∧ μ' = z.2) z) : WW X D cy b r μ' 2 0 0 0 [(0, .ref (b + l0)), (1, .int l1)] [] μ := by
  unfold f_X11_appendCharacter at hf
  refine r_iload_n hB 1 rfl (by decide +kernel : decode cX11_appendCharacter 0 = .ok (.iload_n 1, 1)) rfl ?_
  refine r_iconst hB (v := 0) (by decide +kernel : decode cX11_appendCharacter 1 = .ok (.iconst 0, 1)) (by decide +kernel) ?_
  refine r_sipush hB (v := 255) (by decide +kernel : decode cX11_appendCharacter 2 = .ok (.sipush 255, 3)) (by decide +kernel) ?_
  refine r_cSi hB [.int l1, .int 0, .int 255] [] (own := "PulseRemote") rfl cmX11_inRange smX11_inRange (Or.inl ⟨rfl, k_506⟩) (by decide) rfl rfl rfl (Nat.le_of_ble_eq_true rfl) (by decide +kernel : decode cX11_appendCharacter 5 = .ok (.invokestatic 80, 3)) (fun z hz => m_X11_inRange _ _ _ _ hz) rfl hf (fun z5 hf => ?_)
  refine r_if_ne hB (tgt := 13) (by decide +kernel : decode cX11_appendCharacter 8 = .ok (.ifCond .ne 5, 3)) (by decide) hf (fun _ hf => ?_) (fun _ hf => ?_)
  · refine r_iconst hB (v := (-1)) (by decide +kernel : decode cX11_appendCharacter 11 = .ok (.iconst (-1), 1)) (by decide +kernel) ?_
    obtain rfl := Option.some.inj hf
    obtain ⟨rfl, rfl⟩ := hk
    exact r_iret hB (by decide +kernel : decode cX11_appendCharacter 12 = .ok (.ireturn, 1))
  · refine r_aload_n hB 0 rfl (by decide +kernel : decode cX11_appendCharacter 13 = .ok (.aload_n 0, 1)) rfl ?_
    refine r_gR hB cf11 3 (by decide) (own := "PulseRemote") rfl (Or.inl k_468) (by decide +kernel) (by decide +kernel : decode cX11_appendCharacter 14 = .ok (.getfield 23, 3)) hf (fun x14 hf => ?_)
    refine r_gI hB cf9 1 (by decide) (own := "PulseRemote") rfl (Or.inr ⟨_, k_243⟩) (by decide +kernel) (by decide +kernel : decode cX11_appendCharacter 17 = .ok (.getfield 150, 3)) hf (fun x17 hf => ?_)
    refine r_sipush hB (v := 160) (by decide +kernel : decode cX11_appendCharacter 20 = .ok (.sipush 160, 3)) (by decide +kernel) ?_
    refine r_icmp_lt hB (tgt := 29) (by decide +kernel : decode cX11_appendCharacter 23 = .ok (.if_icmp .lt 6, 3)) (by decide) hf (fun _ hf => ?_) (fun _ hf => ?_)
    · refine r_aload_n hB 0 rfl (by decide +kernel : decode cX11_appendCharacter 29 = .ok (.aload_n 0, 1)) rfl ?_
      refine r_gR hB cf11 3 (by decide) (own := "PulseRemote") rfl (Or.inl k_468) (by decide +kernel) (by decide +kernel : decode cX11_appendCharacter 30 = .ok (.getfield 23, 3)) hf (fun x30 hf => ?_)
      refine r_iload_n hB 1 rfl (by decide +kernel : decode cX11_appendCharacter 33 = .ok (.iload_n 1, 1)) rfl ?_
      refine r_i2c hB (by decide +kernel : decode cX11_appendCharacter 34 = .ok (.i2c, 1)) ?_
      refine r_cVv hB [.int l1.toUInt32.toUInt16.toUInt32.toInt32] [] cf9 (own := "PulseRemote") rfl cmX9_put imX9_put (Or.inl k_733) (by decide) rfl rfl rfl (Nat.le_of_ble_eq_true rfl) (by decide +kernel : decode cX11_appendCharacter 35 = .ok (.invokevirtual 229, 3)) (fun z hz => m_X9_put _ _ _ _ hz) rfl hf (fun z35 hf => ?_)
      refine r_aload_n hB 0 rfl (by decide +kernel : decode cX11_appendCharacter 38 = .ok (.aload_n 0, 1)) rfl ?_
      refine r_gR hB cf11 3 (by decide) (own := "PulseRemote") rfl (Or.inl k_468) (by decide +kernel) (by decide +kernel : decode cX11_appendCharacter 39 = .ok (.getfield 23, 3)) hf (fun x39 hf => ?_)
      refine r_gI hB cf9 1 (by decide) (own := "PulseRemote") rfl (Or.inr ⟨_, k_243⟩) (by decide +kernel) (by decide +kernel : decode cX11_appendCharacter 42 = .ok (.getfield 150, 3)) hf (fun x42 hf => ?_)
      obtain rfl := Option.some.inj hf
      obtain ⟨rfl, rfl⟩ := hk
      exact r_iret hB (by decide +kernel : decode cX11_appendCharacter 45 = .ok (.ireturn, 1))
    · refine r_bipush hB (v := (-3)) (by decide +kernel : decode cX11_appendCharacter 26 = .ok (.bipush (-3), 2)) (by decide +kernel) ?_
      obtain rfl := Option.some.inj hf
      obtain ⟨rfl, rfl⟩ := hk
      exact r_iret hB (by decide +kernel : decode cX11_appendCharacter 28 = .ok (.ireturn, 1))
theorem m_X11_appendCharacter (l : Launch) (D : va_G) (cy : Nat → ClassId) (b : Nat) {l0 : Nat} {l1 : Int32} {μ : MS} {z : Int32 × MS} (hf : f_X11_appendCharacter l0 l1 μ = some z) : Met l yX11_appendCharacter (.code yX11_appendCharacter cX11_appendCharacter 2 (some .int) :: GW) rmX11_appendCharacter (Pw D cy b [.ref (b + l0), .int l1] μ) (Qw D cy b (some (.int z.1)) (z.2)) rmX11_appendCharacter.cells rmX11_appendCharacter.slots (fun q => b ≤ q) :=
  met_of (by decide) (Nat.le_of_ble_eq_true rfl) (fun X hB _ => (t_X11_appendCharacter_0 hB hf ⟨rfl, rfl⟩))
-- PulseRemote.clearText()I
set_option maxHeartbeats 4000000 in
set_option maxRecDepth 100000 in
theorem t_X11_clearText_0 {X : BX} {D : va_G} {cy : Nat → ClassId} {b : Nat} {r : Option Value} {μ' : MS} (hB : BB X D cy b yX11_clearText cX11_clearText 2 (some .int) rmX11_clearText) {l0 : Nat} {μ : MS} {z : (Int32 × MS)} (hf : f_X11_clearText l0 μ = some z) (hk : (fun z : Int32 × MS => r = some (.int z.1) ∧ μ' = z.2) z) : WW X D cy b r μ' 2 0 0 0 [(0, .ref (b + l0))] [] μ := by
  unfold f_X11_clearText at hf
  refine r_aload_n hB 0 rfl (by decide +kernel : decode cX11_clearText 0 = .ok (.aload_n 0, 1)) rfl ?_
  refine r_gR hB cf11 3 (by decide) (own := "PulseRemote") rfl (Or.inl k_468) (by decide +kernel) (by decide +kernel : decode cX11_clearText 1 = .ok (.getfield 23, 3)) hf (fun x1 hf => ?_)
  refine r_gI hB cf9 1 (by decide) (own := "PulseRemote") rfl (Or.inr ⟨_, k_243⟩) (by decide +kernel) (by decide +kernel : decode cX11_clearText 4 = .ok (.getfield 150, 3)) hf (fun x4 hf => ?_)
  refine r_istore_n hB (by decide +kernel : decode cX11_clearText 7 = .ok (.istore_n 1, 1)) rfl (by decide) rfl ?_
  refine ww_lv (lv' := [(1, .int x4), (0, .ref (b + l0))]) rfl ?_
  refine r_aload_n hB 1 rfl (by decide +kernel : decode cX11_clearText 8 = .ok (.aload_n 0, 1)) rfl ?_
  refine r_gR hB cf11 3 (by decide) (own := "PulseRemote") rfl (Or.inl k_468) (by decide +kernel) (by decide +kernel : decode cX11_clearText 9 = .ok (.getfield 23, 3)) hf (fun x9 hf => ?_)
  refine r_iconst hB (v := 0) (by decide +kernel : decode cX11_clearText 12 = .ok (.iconst 0, 1)) (by decide +kernel) ?_
  refine r_pI hB cf9 1 (by decide) (own := "PulseRemote") rfl (Or.inr ⟨_, k_243⟩) (Or.inl rfl) rfl (by decide +kernel : decode cX11_clearText 13 = .ok (.putfield 150, 3)) hf (fun m13 hf => ?_)
  refine r_iload_n hB 0 rfl (by decide +kernel : decode cX11_clearText 16 = .ok (.iload_n 1, 1)) rfl ?_
  obtain rfl := Option.some.inj hf
  obtain ⟨rfl, rfl⟩ := hk
  exact r_iret hB (by decide +kernel : decode cX11_clearText 17 = .ok (.ireturn, 1))
theorem m_X11_clearText (l : Launch) (D : va_G) (cy : Nat → ClassId) (b : Nat) {l0 : Nat} {μ : MS} {z : Int32 × MS} (hf : f_X11_clearText l0 μ = some z) : Met l yX11_clearText (.code yX11_clearText cX11_clearText 2 (some .int) :: GW) rmX11_clearText (Pw D cy b [.ref (b + l0)] μ) (Qw D cy b (some (.int z.1)) (z.2)) rmX11_clearText.cells rmX11_clearText.slots (fun q => b ≤ q) :=
  met_of (by decide) (Nat.le_of_ble_eq_true rfl) (fun X hB _ => (t_X11_clearText_0 hB hf ⟨rfl, rfl⟩))
-- PulseRemote$Table.makeEmpty()V
set_option maxHeartbeats 4000000 in
set_option maxRecDepth 100000 in
theorem t_X8_makeEmpty_0 {X : BX} {D : va_G} {cy : Nat → ClassId} {b : Nat} {r : Option Value} {μ' : MS} (hB : BB X D cy b yX8_makeEmpty cX8_makeEmpty 1 none rmX8_makeEmpty) {l0 : Nat} {μ : MS} {z : MS} (hf : f_X8_makeEmpty l0 μ = some z) (hk : (fun z : MS => r = none ∧ μ' = z) z) : WW X D cy b r μ' 1 0 0 0 [(0, .ref (b + l0))] [] μ := by
  unfold f_X8_makeEmpty at hf
  refine r_aload_n hB 0 rfl (by decide +kernel : decode cX8_makeEmpty 0 = .ok (.aload_n 0, 1)) rfl ?_
  refine r_iconst hB (v := 0) (by decide +kernel : decode cX8_makeEmpty 1 = .ok (.iconst 0, 1)) (by decide +kernel) ?_
  refine r_pI hB cf8 1 (by decide) (own := "PulseRemote$Table") rfl (Or.inl k_172) (Or.inl rfl) rfl (by decide +kernel : decode cX8_makeEmpty 2 = .ok (.putfield 35, 3)) hf (fun m2 hf => ?_)
  refine r_aload_n hB 0 rfl (by decide +kernel : decode cX8_makeEmpty 5 = .ok (.aload_n 0, 1)) rfl ?_
  refine r_iconst hB (v := 0) (by decide +kernel : decode cX8_makeEmpty 6 = .ok (.iconst 0, 1)) (by decide +kernel) ?_
  refine r_pI hB cf8 4 (by decide) (own := "PulseRemote$Table") rfl (Or.inl k_178) (Or.inl rfl) rfl (by decide +kernel : decode cX8_makeEmpty 7 = .ok (.putfield 39, 3)) hf (fun m7 hf => ?_)
  obtain rfl := Option.some.inj hf
  obtain ⟨rfl, rfl⟩ := hk
  exact r_vret hB (by decide +kernel : decode cX8_makeEmpty 10 = .ok (.return_, 1))
theorem m_X8_makeEmpty (l : Launch) (D : va_G) (cy : Nat → ClassId) (b : Nat) {l0 : Nat} {μ : MS} {z : MS} (hf : f_X8_makeEmpty l0 μ = some z) : Met l yX8_makeEmpty (.code yX8_makeEmpty cX8_makeEmpty 1 none :: GW) rmX8_makeEmpty (Pw D cy b [.ref (b + l0)] μ) (Qw D cy b (none) (z)) rmX8_makeEmpty.cells rmX8_makeEmpty.slots (fun q => b ≤ q) :=
  met_of (by decide) (Nat.le_of_ble_eq_true rfl) (fun X hB _ => (t_X8_makeEmpty_0 hB hf ⟨rfl, rfl⟩))
-- PulseRemote$Text.at(I)C
set_option maxHeartbeats 4000000 in
set_option maxRecDepth 100000 in
theorem t_X9_at_0 {X : BX} {D : va_G} {cy : Nat → ClassId} {b : Nat} {r : Option Value} {μ' : MS} (hB : BB X D cy b yX9_at cX9_at 2 (some .char) rmX9_at) {l0 : Nat} {l1 : Int32} {μ : MS} {z : (Int32 × MS)} (hf : f_X9_at l0 l1 μ = some z) (hk : (fun z : Int32 × MS => r = some (.int z.1) ∧ μ' = z.2) z) : WW X D cy b r μ' 2 0 0 0 [(0, .ref (b + l0)), (1, .int l1)] [] μ := by
  unfold f_X9_at at hf
  refine r_iload_n hB 1 rfl (by decide +kernel : decode cX9_at 0 = .ok (.iload_n 1, 1)) rfl ?_
  refine r_if_lt hB (tgt := 28) (by decide +kernel : decode cX9_at 1 = .ok (.ifCond .lt 27, 3)) (by decide) hf (fun _ hf => ?_) (fun _ hf => ?_)
  · refine r_bipush hB (v := 32) (by decide +kernel : decode cX9_at 28 = .ok (.bipush 32, 2)) (by decide +kernel) ?_
    obtain ⟨hv, rfl⟩ := rC_inv hf
    obtain ⟨rfl, rfl⟩ := hk
    exact r_cret hB hv (by decide +kernel : decode cX9_at 30 = .ok (.ireturn, 1))
  · refine r_iload_n hB 1 rfl (by decide +kernel : decode cX9_at 4 = .ok (.iload_n 1, 1)) rfl ?_
    refine r_aload_n hB 0 rfl (by decide +kernel : decode cX9_at 5 = .ok (.aload_n 0, 1)) rfl ?_
    refine r_gI hB cf9 1 (by decide) (own := "PulseRemote$Text") rfl (Or.inl k_242) (by decide +kernel) (by decide +kernel : decode cX9_at 6 = .ok (.getfield 15, 3)) hf (fun x6 hf => ?_)
    refine r_icmp_ge hB (tgt := 28) (by decide +kernel : decode cX9_at 9 = .ok (.if_icmp .ge 19, 3)) (by decide) hf (fun _ hf => ?_) (fun _ hf => ?_)
    · refine r_bipush hB (v := 32) (by decide +kernel : decode cX9_at 28 = .ok (.bipush 32, 2)) (by decide +kernel) ?_
      obtain ⟨hv, rfl⟩ := rC_inv hf
      obtain ⟨rfl, rfl⟩ := hk
      exact r_cret hB hv (by decide +kernel : decode cX9_at 30 = .ok (.ireturn, 1))
    · refine r_iload_n hB 1 rfl (by decide +kernel : decode cX9_at 12 = .ok (.iload_n 1, 1)) rfl ?_
      refine r_sipush hB (v := 160) (by decide +kernel : decode cX9_at 13 = .ok (.sipush 160, 3)) (by decide +kernel) ?_
      refine r_icmp_ge hB (tgt := 28) (by decide +kernel : decode cX9_at 16 = .ok (.if_icmp .ge 12, 3)) (by decide) hf (fun _ hf => ?_) (fun _ hf => ?_)
      · refine r_bipush hB (v := 32) (by decide +kernel : decode cX9_at 28 = .ok (.bipush 32, 2)) (by decide +kernel) ?_
        obtain ⟨hv, rfl⟩ := rC_inv hf
        obtain ⟨rfl, rfl⟩ := hk
        exact r_cret hB hv (by decide +kernel : decode cX9_at 30 = .ok (.ireturn, 1))
      · refine r_aload_n hB 0 rfl (by decide +kernel : decode cX9_at 19 = .ok (.aload_n 0, 1)) rfl ?_
        refine r_gR hB cf9 0 (by decide) (own := "PulseRemote$Text") rfl (Or.inl k_241) (by decide +kernel) (by decide +kernel : decode cX9_at 20 = .ok (.getfield 9, 3)) hf (fun x20 hf => ?_)
        refine r_iload_n hB 1 rfl (by decide +kernel : decode cX9_at 23 = .ok (.iload_n 1, 1)) rfl ?_
        refine r_cald hB (by decide +kernel : decode cX9_at 24 = .ok (.caload, 1)) hf (fun x24 hf => ?_)
        refine r_goto hB (tgt := 30) (by decide +kernel : decode cX9_at 25 = .ok (.goto 5, 3)) (by decide) ?_
        obtain ⟨hv, rfl⟩ := rC_inv hf
        obtain ⟨rfl, rfl⟩ := hk
        exact r_cret hB hv (by decide +kernel : decode cX9_at 30 = .ok (.ireturn, 1))
theorem m_X9_at (l : Launch) (D : va_G) (cy : Nat → ClassId) (b : Nat) {l0 : Nat} {l1 : Int32} {μ : MS} {z : Int32 × MS} (hf : f_X9_at l0 l1 μ = some z) : Met l yX9_at (.code yX9_at cX9_at 2 (some .char) :: GW) rmX9_at (Pw D cy b [.ref (b + l0), .int l1] μ) (Qw D cy b (some (.int z.1)) (z.2)) rmX9_at.cells rmX9_at.slots (fun q => b ≤ q) :=
  met_of (by decide) (Nat.le_of_ble_eq_true rfl) (fun X hB _ => (t_X9_at_0 hB hf ⟨rfl, rfl⟩))
-- PulseRemote$Text.kindAt(I)I
set_option maxHeartbeats 4000000 in
set_option maxRecDepth 100000 in
theorem t_X9_kindAt_56 {X : BX} {D : va_G} {cy : Nat → ClassId} {b : Nat} {r : Option Value} {μ' : MS} (hB : BB X D cy b yX9_kindAt cX9_kindAt 3 (some .int) rmX9_kindAt) {l2 : Int32} {μ : MS} {z : (Int32 × MS)} (hf : f_X9_kindAt_56 l2 μ = some z) (hk : (fun z : Int32 × MS => r = some (.int z.1) ∧ μ' = z.2) z) : WW X D cy b r μ' 3 0 0 56 [(2, .int l2)] [] μ := by
  unfold f_X9_kindAt_56 at hf
  refine r_iload_n hB 0 rfl (by decide +kernel : decode cX9_kindAt 56 = .ok (.iload_n 2, 1)) rfl ?_
  refine r_bipush hB (v := 59) (by decide +kernel : decode cX9_kindAt 57 = .ok (.bipush 59, 2)) (by decide +kernel) ?_
  refine r_icmp_ne hB (tgt := 66) (by decide +kernel : decode cX9_kindAt 59 = .ok (.if_icmp .ne 7, 3)) (by decide) hf (fun _ hf => ?_) (fun _ hf => ?_)
  · refine r_iconst hB (v := 3) (by decide +kernel : decode cX9_kindAt 62 = .ok (.iconst 3, 1)) (by decide +kernel) ?_
    refine r_goto hB (tgt := 67) (by decide +kernel : decode cX9_kindAt 63 = .ok (.goto 4, 3)) (by decide) ?_
    obtain rfl := Option.some.inj hf
    obtain ⟨rfl, rfl⟩ := hk
    exact r_iret hB (by decide +kernel : decode cX9_kindAt 67 = .ok (.ireturn, 1))
  · refine r_iconst hB (v := 4) (by decide +kernel : decode cX9_kindAt 66 = .ok (.iconst 4, 1)) (by decide +kernel) ?_
    obtain rfl := Option.some.inj hf
    obtain ⟨rfl, rfl⟩ := hk
    exact r_iret hB (by decide +kernel : decode cX9_kindAt 67 = .ok (.ireturn, 1))
set_option maxHeartbeats 4000000 in
set_option maxRecDepth 100000 in
theorem t_X9_kindAt_42 {X : BX} {D : va_G} {cy : Nat → ClassId} {b : Nat} {r : Option Value} {μ' : MS} (hB : BB X D cy b yX9_kindAt cX9_kindAt 3 (some .int) rmX9_kindAt) {l2 : Int32} {μ : MS} {z : (Int32 × MS)} (hf : f_X9_kindAt_42 l2 μ = some z) (hk : (fun z : Int32 × MS => r = some (.int z.1) ∧ μ' = z.2) z) : WW X D cy b r μ' 3 0 0 42 [(2, .int l2)] [] μ := by
  unfold f_X9_kindAt_42 at hf
  refine r_iload_n hB 0 rfl (by decide +kernel : decode cX9_kindAt 42 = .ok (.iload_n 2, 1)) rfl ?_
  refine r_bipush hB (v := 48) (by decide +kernel : decode cX9_kindAt 43 = .ok (.bipush 48, 2)) (by decide +kernel) ?_
  refine r_icmp_lt hB (tgt := 56) (by decide +kernel : decode cX9_kindAt 45 = .ok (.if_icmp .lt 11, 3)) (by decide) hf (fun _ hf => ?_) (fun _ hf => ?_)
  · exact WW.sub [0] rfl (t_X9_kindAt_56 hB hf hk)
  · refine r_iload_n hB 0 rfl (by decide +kernel : decode cX9_kindAt 48 = .ok (.iload_n 2, 1)) rfl ?_
    refine r_bipush hB (v := 57) (by decide +kernel : decode cX9_kindAt 49 = .ok (.bipush 57, 2)) (by decide +kernel) ?_
    refine r_icmp_gt hB (tgt := 56) (by decide +kernel : decode cX9_kindAt 51 = .ok (.if_icmp .gt 5, 3)) (by decide) hf (fun _ hf => ?_) (fun _ hf => ?_)
    · exact WW.sub [0] rfl (t_X9_kindAt_56 hB hf hk)
    · refine r_iconst hB (v := 2) (by decide +kernel : decode cX9_kindAt 54 = .ok (.iconst 2, 1)) (by decide +kernel) ?_
      obtain rfl := Option.some.inj hf
      obtain ⟨rfl, rfl⟩ := hk
      exact r_iret hB (by decide +kernel : decode cX9_kindAt 55 = .ok (.ireturn, 1))
set_option maxHeartbeats 4000000 in
set_option maxRecDepth 100000 in
theorem t_X9_kindAt_0 {X : BX} {D : va_G} {cy : Nat → ClassId} {b : Nat} {r : Option Value} {μ' : MS} (hB : BB X D cy b yX9_kindAt cX9_kindAt 3 (some .int) rmX9_kindAt) {l0 : Nat} {l1 : Int32} {μ : MS} {z : (Int32 × MS)} (hf : f_X9_kindAt l0 l1 μ = some z) (hk : (fun z : Int32 × MS => r = some (.int z.1) ∧ μ' = z.2) z) : WW X D cy b r μ' 3 0 0 0 [(0, .ref (b + l0)), (1, .int l1)] [] μ := by
  unfold f_X9_kindAt at hf
  refine r_iload_n hB 1 rfl (by decide +kernel : decode cX9_kindAt 0 = .ok (.iload_n 1, 1)) rfl ?_
  refine r_if_lt hB (tgt := 19) (by decide +kernel : decode cX9_kindAt 1 = .ok (.ifCond .lt 18, 3)) (by decide) hf (fun _ hf => ?_) (fun _ hf => ?_)
  · refine r_iconst hB (v := 0) (by decide +kernel : decode cX9_kindAt 19 = .ok (.iconst 0, 1)) (by decide +kernel) ?_
    obtain rfl := Option.some.inj hf
    obtain ⟨rfl, rfl⟩ := hk
    exact r_iret hB (by decide +kernel : decode cX9_kindAt 20 = .ok (.ireturn, 1))
  · refine r_iload_n hB 1 rfl (by decide +kernel : decode cX9_kindAt 4 = .ok (.iload_n 1, 1)) rfl ?_
    refine r_aload_n hB 0 rfl (by decide +kernel : decode cX9_kindAt 5 = .ok (.aload_n 0, 1)) rfl ?_
    refine r_gI hB cf9 1 (by decide) (own := "PulseRemote$Text") rfl (Or.inl k_242) (by decide +kernel) (by decide +kernel : decode cX9_kindAt 6 = .ok (.getfield 15, 3)) hf (fun x6 hf => ?_)
    refine r_icmp_ge hB (tgt := 19) (by decide +kernel : decode cX9_kindAt 9 = .ok (.if_icmp .ge 10, 3)) (by decide) hf (fun _ hf => ?_) (fun _ hf => ?_)
    · refine r_iconst hB (v := 0) (by decide +kernel : decode cX9_kindAt 19 = .ok (.iconst 0, 1)) (by decide +kernel) ?_
      obtain rfl := Option.some.inj hf
      obtain ⟨rfl, rfl⟩ := hk
      exact r_iret hB (by decide +kernel : decode cX9_kindAt 20 = .ok (.ireturn, 1))
    · refine r_iload_n hB 1 rfl (by decide +kernel : decode cX9_kindAt 12 = .ok (.iload_n 1, 1)) rfl ?_
      refine r_sipush hB (v := 160) (by decide +kernel : decode cX9_kindAt 13 = .ok (.sipush 160, 3)) (by decide +kernel) ?_
      refine r_icmp_lt hB (tgt := 21) (by decide +kernel : decode cX9_kindAt 16 = .ok (.if_icmp .lt 5, 3)) (by decide) hf (fun _ hf => ?_) (fun _ hf => ?_)
      · refine r_aload_n hB 0 rfl (by decide +kernel : decode cX9_kindAt 21 = .ok (.aload_n 0, 1)) rfl ?_
        refine r_gR hB cf9 0 (by decide) (own := "PulseRemote$Text") rfl (Or.inl k_241) (by decide +kernel) (by decide +kernel : decode cX9_kindAt 22 = .ok (.getfield 9, 3)) hf (fun x22 hf => ?_)
        refine r_iload_n hB 1 rfl (by decide +kernel : decode cX9_kindAt 25 = .ok (.iload_n 1, 1)) rfl ?_
        refine r_cald hB (by decide +kernel : decode cX9_kindAt 26 = .ok (.caload, 1)) hf (fun x26 hf => ?_)
        refine r_istore_n hB (by decide +kernel : decode cX9_kindAt 27 = .ok (.istore_n 2, 1)) rfl (by decide) rfl ?_
        refine ww_lv (lv' := [(2, .int x26), (0, .ref (b + l0)), (1, .int l1)]) rfl ?_
        refine r_iload_n hB 0 rfl (by decide +kernel : decode cX9_kindAt 28 = .ok (.iload_n 2, 1)) rfl ?_
        refine r_bipush hB (v := 97) (by decide +kernel : decode cX9_kindAt 29 = .ok (.bipush 97, 2)) (by decide +kernel) ?_
        refine r_icmp_lt hB (tgt := 42) (by decide +kernel : decode cX9_kindAt 31 = .ok (.if_icmp .lt 11, 3)) (by decide) hf (fun _ hf => ?_) (fun _ hf => ?_)
        · exact WW.sub [0] rfl (t_X9_kindAt_42 hB hf hk)
        · refine r_iload_n hB 0 rfl (by decide +kernel : decode cX9_kindAt 34 = .ok (.iload_n 2, 1)) rfl ?_
          refine r_bipush hB (v := 122) (by decide +kernel : decode cX9_kindAt 35 = .ok (.bipush 122, 2)) (by decide +kernel) ?_
          refine r_icmp_gt hB (tgt := 42) (by decide +kernel : decode cX9_kindAt 37 = .ok (.if_icmp .gt 5, 3)) (by decide) hf (fun _ hf => ?_) (fun _ hf => ?_)
          · exact WW.sub [0] rfl (t_X9_kindAt_42 hB hf hk)
          · refine r_iconst hB (v := 1) (by decide +kernel : decode cX9_kindAt 40 = .ok (.iconst 1, 1)) (by decide +kernel) ?_
            obtain rfl := Option.some.inj hf
            obtain ⟨rfl, rfl⟩ := hk
            exact r_iret hB (by decide +kernel : decode cX9_kindAt 41 = .ok (.ireturn, 1))
      · refine r_iconst hB (v := 0) (by decide +kernel : decode cX9_kindAt 19 = .ok (.iconst 0, 1)) (by decide +kernel) ?_
        obtain rfl := Option.some.inj hf
        obtain ⟨rfl, rfl⟩ := hk
        exact r_iret hB (by decide +kernel : decode cX9_kindAt 20 = .ok (.ireturn, 1))
theorem m_X9_kindAt (l : Launch) (D : va_G) (cy : Nat → ClassId) (b : Nat) {l0 : Nat} {l1 : Int32} {μ : MS} {z : Int32 × MS} (hf : f_X9_kindAt l0 l1 μ = some z) : Met l yX9_kindAt (.code yX9_kindAt cX9_kindAt 3 (some .int) :: GW) rmX9_kindAt (Pw D cy b [.ref (b + l0), .int l1] μ) (Qw D cy b (some (.int z.1)) (z.2)) rmX9_kindAt.cells rmX9_kindAt.slots (fun q => b ≤ q) :=
  met_of (by decide) (Nat.le_of_ble_eq_true rfl) (fun X hB _ => (t_X9_kindAt_0 hB hf ⟨rfl, rfl⟩))
-- PulseRemote$Text.takeToken()V
set_option maxHeartbeats 4000000 in
set_option maxRecDepth 100000 in
theorem t_X9_takeToken_136 {X : BX} {D : va_G} {cy : Nat → ClassId} {b : Nat} {r : Option Value} {μ' : MS} (hB : BB X D cy b yX9_takeToken cX9_takeToken 1 none rmX9_takeToken)  {μ : MS} {z : MS} (hf : f_X9_takeToken_136  μ = some z) (hk : (fun z : MS => r = none ∧ μ' = z) z) : WW X D cy b r μ' 1 0 0 136 [] [] μ := by
  unfold f_X9_takeToken_136 at hf
  obtain rfl := Option.some.inj hf
  obtain ⟨rfl, rfl⟩ := hk
  exact r_vret hB (by decide +kernel : decode cX9_takeToken 136 = .ok (.return_, 1))
set_option maxHeartbeats 4000000 in
set_option maxRecDepth 100000 in
theorem t_X9_takeToken_97_b {X : BX} {D : va_G} {cy : Nat → ClassId} {b : Nat} {r : Option Value} {μ' : MS} (hB : BB X D cy b yX9_takeToken cX9_takeToken 1 none rmX9_takeToken) {l0 : Nat} {μ : MS} {z : ((Nat × MS) ⊕ MS)} (hf : f_X9_takeToken_97_b l0 μ = some z) (hk : (Sum.elim (fun s : Nat × MS => WW X D cy b r μ' 1 0 0 97 [(0, .ref (b + s.1))] [] s.2) (fun z : MS => r = none ∧ μ' = z)) z) : WW X D cy b r μ' 1 0 0 97 [(0, .ref (b + l0))] [] μ := by
  unfold f_X9_takeToken_97_b at hf
  refine r_aload_n hB 0 rfl (by decide +kernel : decode cX9_takeToken 97 = .ok (.aload_n 0, 1)) rfl ?_
  refine r_gI hB cf9 4 (by decide) (own := "PulseRemote$Text") rfl (Or.inl k_247) (by decide +kernel) (by decide +kernel : decode cX9_takeToken 98 = .ok (.getfield 19, 3)) hf (fun x98 hf => ?_)
  refine r_aload_n hB 0 rfl (by decide +kernel : decode cX9_takeToken 101 = .ok (.aload_n 0, 1)) rfl ?_
  refine r_gI hB cf9 1 (by decide) (own := "PulseRemote$Text") rfl (Or.inl k_242) (by decide +kernel) (by decide +kernel : decode cX9_takeToken 102 = .ok (.getfield 15, 3)) hf (fun x102 hf => ?_)
  refine r_icmp_ge hB (tgt := 136) (by decide +kernel : decode cX9_takeToken 105 = .ok (.if_icmp .ge 31, 3)) (by decide) hf (fun _ hf => ?_) (fun _ hf => ?_)
  · obtain ⟨_, hx0, rfl⟩ := xr_inv hf
    exact WW.sub [] rfl (t_X9_takeToken_136 hB hx0 hk)
  · refine r_aload_n hB 0 rfl (by decide +kernel : decode cX9_takeToken 108 = .ok (.aload_n 0, 1)) rfl ?_
    refine r_aload_n hB 0 rfl (by decide +kernel : decode cX9_takeToken 109 = .ok (.aload_n 0, 1)) rfl ?_
    refine r_gI hB cf9 4 (by decide) (own := "PulseRemote$Text") rfl (Or.inl k_247) (by decide +kernel) (by decide +kernel : decode cX9_takeToken 110 = .ok (.getfield 19, 3)) hf (fun x110 hf => ?_)
    refine r_cVi hB [.int x110] [] cf9 (own := "PulseRemote$Text") rfl cmX9_kindAt imX9_kindAt (Or.inl k_761) (by decide) rfl rfl rfl (Nat.le_of_ble_eq_true rfl) (by decide +kernel : decode cX9_takeToken 113 = .ok (.invokevirtual 119, 3)) (fun z hz => m_X9_kindAt _ _ _ _ hz) rfl hf (fun z113 hf => ?_)
    refine r_aload_n hB 0 rfl (by decide +kernel : decode cX9_takeToken 116 = .ok (.aload_n 0, 1)) rfl ?_
    refine r_gI hB cf9 2 (by decide) (own := "PulseRemote$Text") rfl (Or.inl k_244) (by decide +kernel) (by decide +kernel : decode cX9_takeToken 117 = .ok (.getfield 30, 3)) hf (fun x117 hf => ?_)
    refine r_icmp_ne hB (tgt := 136) (by decide +kernel : decode cX9_takeToken 120 = .ok (.if_icmp .ne 16, 3)) (by decide) hf (fun _ hf => ?_) (fun _ hf => ?_)
    · refine r_aload_n hB 0 rfl (by decide +kernel : decode cX9_takeToken 123 = .ok (.aload_n 0, 1)) rfl ?_
      refine r_dup hB (by decide +kernel : decode cX9_takeToken 124 = .ok (.dup, 1)) rfl ?_
      refine r_gI hB cf9 4 (by decide) (own := "PulseRemote$Text") rfl (Or.inl k_247) (by decide +kernel) (by decide +kernel : decode cX9_takeToken 125 = .ok (.getfield 19, 3)) hf (fun x125 hf => ?_)
      refine r_iconst hB (v := 1) (by decide +kernel : decode cX9_takeToken 128 = .ok (.iconst 1, 1)) (by decide +kernel) ?_
      refine r_iadd hB (by decide +kernel : decode cX9_takeToken 129 = .ok (.iadd, 1)) ?_
      refine r_pI hB cf9 4 (by decide) (own := "PulseRemote$Text") rfl (Or.inl k_247) (Or.inl rfl) rfl (by decide +kernel : decode cX9_takeToken 130 = .ok (.putfield 19, 3)) hf (fun m130 hf => ?_)
      refine r_goto hB (tgt := 97) (by decide +kernel : decode cX9_takeToken 133 = .ok (.goto (-36), 3)) (by decide) ?_
      obtain rfl := Option.some.inj hf
      exact WW.sub [0] rfl hk
    · obtain ⟨_, hx0, rfl⟩ := xr_inv hf
      exact WW.sub [] rfl (t_X9_takeToken_136 hB hx0 hk)
set_option maxHeartbeats 4000000 in
set_option maxRecDepth 100000 in
theorem t_X9_takeToken_97 {X : BX} {D : va_G} {cy : Nat → ClassId} {b : Nat} {r : Option Value} {μ' : MS} (hB : BB X D cy b yX9_takeToken cX9_takeToken 1 none rmX9_takeToken) {l0 : Nat} {μ : MS} {z : MS} (hf : f_X9_takeToken_97 l0 μ = some z) (hk : (fun z : MS => r = none ∧ μ' = z) z) : WW X D cy b r μ' 1 0 0 97 [(0, .ref (b + l0))] [] μ :=
  lp_ind (P := fun s : Nat × MS => WW X D cy b r μ' 1 0 0 97 [(0, .ref (b + s.1))] [] s.2) (Q := (fun z : MS => r = none ∧ μ' = z)) (fun s z hz hk => t_X9_takeToken_97_b hB hz hk) (l0, μ) z hf hk
set_option maxHeartbeats 4000000 in
set_option maxRecDepth 100000 in
theorem t_X9_takeToken_78 {X : BX} {D : va_G} {cy : Nat → ClassId} {b : Nat} {r : Option Value} {μ' : MS} (hB : BB X D cy b yX9_takeToken cX9_takeToken 1 none rmX9_takeToken) {l0 : Nat} {s0 : Int32} {s1 : Nat} {μ : MS} {z : MS} (hf : f_X9_takeToken_78 l0 s0 s1 μ = some z) (hk : (fun z : MS => r = none ∧ μ' = z) z) : WW X D cy b r μ' 1 0 0 78 [(0, .ref (b + l0))] [.int s0, .ref (b + s1)] μ := by
  unfold f_X9_takeToken_78 at hf
  refine r_pI hB cf9 4 (by decide) (own := "PulseRemote$Text") rfl (Or.inl k_247) (Or.inl rfl) rfl (by decide +kernel : decode cX9_takeToken 78 = .ok (.putfield 19, 3)) hf (fun m78 hf => ?_)
  refine r_aload_n hB 0 rfl (by decide +kernel : decode cX9_takeToken 81 = .ok (.aload_n 0, 1)) rfl ?_
  refine r_gI hB cf9 2 (by decide) (own := "PulseRemote$Text") rfl (Or.inl k_244) (by decide +kernel) (by decide +kernel : decode cX9_takeToken 82 = .ok (.getfield 30, 3)) hf (fun x82 hf => ?_)
  refine r_iconst hB (v := 1) (by decide +kernel : decode cX9_takeToken 85 = .ok (.iconst 1, 1)) (by decide +kernel) ?_
  refine r_icmp_eq hB (tgt := 97) (by decide +kernel : decode cX9_takeToken 86 = .ok (.if_icmp .eq 11, 3)) (by decide) hf (fun _ hf => ?_) (fun _ hf => ?_)
  · exact WW.sub [0] rfl (t_X9_takeToken_97 hB hf hk)
  · refine r_aload_n hB 0 rfl (by decide +kernel : decode cX9_takeToken 89 = .ok (.aload_n 0, 1)) rfl ?_
    refine r_gI hB cf9 2 (by decide) (own := "PulseRemote$Text") rfl (Or.inl k_244) (by decide +kernel) (by decide +kernel : decode cX9_takeToken 90 = .ok (.getfield 30, 3)) hf (fun x90 hf => ?_)
    refine r_iconst hB (v := 2) (by decide +kernel : decode cX9_takeToken 93 = .ok (.iconst 2, 1)) (by decide +kernel) ?_
    refine r_icmp_ne hB (tgt := 136) (by decide +kernel : decode cX9_takeToken 94 = .ok (.if_icmp .ne 42, 3)) (by decide) hf (fun _ hf => ?_) (fun _ hf => ?_)
    · exact WW.sub [0] rfl (t_X9_takeToken_97 hB hf hk)
    · obtain rfl := Option.some.inj hf
      obtain ⟨rfl, rfl⟩ := hk
      exact r_vret hB (by decide +kernel : decode cX9_takeToken 136 = .ok (.return_, 1))
set_option maxHeartbeats 4000000 in
set_option maxRecDepth 100000 in
theorem t_X9_takeToken_45 {X : BX} {D : va_G} {cy : Nat → ClassId} {b : Nat} {r : Option Value} {μ' : MS} (hB : BB X D cy b yX9_takeToken cX9_takeToken 1 none rmX9_takeToken) {l0 : Nat} {μ : MS} {z : MS} (hf : f_X9_takeToken_45 l0 μ = some z) (hk : (fun z : MS => r = none ∧ μ' = z) z) : WW X D cy b r μ' 1 0 0 45 [(0, .ref (b + l0))] [] μ := by
  unfold f_X9_takeToken_45 at hf
  refine r_aload_n hB 0 rfl (by decide +kernel : decode cX9_takeToken 45 = .ok (.aload_n 0, 1)) rfl ?_
  refine r_aload_n hB 0 rfl (by decide +kernel : decode cX9_takeToken 46 = .ok (.aload_n 0, 1)) rfl ?_
  refine r_aload_n hB 0 rfl (by decide +kernel : decode cX9_takeToken 47 = .ok (.aload_n 0, 1)) rfl ?_
  refine r_gI hB cf9 3 (by decide) (own := "PulseRemote$Text") rfl (Or.inl k_245) (by decide +kernel) (by decide +kernel : decode cX9_takeToken 48 = .ok (.getfield 99, 3)) hf (fun x48 hf => ?_)
  refine r_cVi hB [.int x48] [.ref (b + l0)] cf9 (own := "PulseRemote$Text") rfl cmX9_kindAt imX9_kindAt (Or.inl k_761) (by decide) rfl rfl rfl (Nat.le_of_ble_eq_true rfl) (by decide +kernel : decode cX9_takeToken 51 = .ok (.invokevirtual 119, 3)) (fun z hz => m_X9_kindAt _ _ _ _ hz) rfl hf (fun z51 hf => ?_)
  refine r_pI hB cf9 2 (by decide) (own := "PulseRemote$Text") rfl (Or.inl k_244) (Or.inl rfl) rfl (by decide +kernel : decode cX9_takeToken 54 = .ok (.putfield 30, 3)) hf (fun m54 hf => ?_)
  refine r_aload_n hB 0 rfl (by decide +kernel : decode cX9_takeToken 57 = .ok (.aload_n 0, 1)) rfl ?_
  refine r_aload_n hB 0 rfl (by decide +kernel : decode cX9_takeToken 58 = .ok (.aload_n 0, 1)) rfl ?_
  refine r_gI hB cf9 2 (by decide) (own := "PulseRemote$Text") rfl (Or.inl k_244) (by decide +kernel) (by decide +kernel : decode cX9_takeToken 59 = .ok (.getfield 30, 3)) hf (fun x59 hf => ?_)
  refine r_if_ne hB (tgt := 72) (by decide +kernel : decode cX9_takeToken 62 = .ok (.ifCond .ne 10, 3)) (by decide) hf (fun _ hf => ?_) (fun _ hf => ?_)
  · refine r_aload_n hB 0 rfl (by decide +kernel : decode cX9_takeToken 65 = .ok (.aload_n 0, 1)) rfl ?_
    refine r_gI hB cf9 3 (by decide) (own := "PulseRemote$Text") rfl (Or.inl k_245) (by decide +kernel) (by decide +kernel : decode cX9_takeToken 66 = .ok (.getfield 99, 3)) hf (fun x66 hf => ?_)
    refine r_goto hB (tgt := 78) (by decide +kernel : decode cX9_takeToken 69 = .ok (.goto 9, 3)) (by decide) ?_
    exact WW.sub [0] rfl (t_X9_takeToken_78 hB hf hk)
  · refine r_aload_n hB 0 rfl (by decide +kernel : decode cX9_takeToken 72 = .ok (.aload_n 0, 1)) rfl ?_
    refine r_gI hB cf9 3 (by decide) (own := "PulseRemote$Text") rfl (Or.inl k_245) (by decide +kernel) (by decide +kernel : decode cX9_takeToken 73 = .ok (.getfield 99, 3)) hf (fun x73 hf => ?_)
    refine r_iconst hB (v := 1) (by decide +kernel : decode cX9_takeToken 76 = .ok (.iconst 1, 1)) (by decide +kernel) ?_
    refine r_iadd hB (by decide +kernel : decode cX9_takeToken 77 = .ok (.iadd, 1)) ?_
    exact WW.sub [0] rfl (t_X9_takeToken_78 hB hf hk)
set_option maxHeartbeats 4000000 in
set_option maxRecDepth 100000 in
theorem t_X9_takeToken_8_b {X : BX} {D : va_G} {cy : Nat → ClassId} {b : Nat} {r : Option Value} {μ' : MS} (hB : BB X D cy b yX9_takeToken cX9_takeToken 1 none rmX9_takeToken) {l0 : Nat} {μ : MS} {z : ((Nat × MS) ⊕ MS)} (hf : f_X9_takeToken_8_b l0 μ = some z) (hk : (Sum.elim (fun s : Nat × MS => WW X D cy b r μ' 1 0 0 8 [(0, .ref (b + s.1))] [] s.2) (fun z : MS => r = none ∧ μ' = z)) z) : WW X D cy b r μ' 1 0 0 8 [(0, .ref (b + l0))] [] μ := by
  unfold f_X9_takeToken_8_b at hf
  refine r_aload_n hB 0 rfl (by decide +kernel : decode cX9_takeToken 8 = .ok (.aload_n 0, 1)) rfl ?_
  refine r_gI hB cf9 3 (by decide) (own := "PulseRemote$Text") rfl (Or.inl k_245) (by decide +kernel) (by decide +kernel : decode cX9_takeToken 9 = .ok (.getfield 99, 3)) hf (fun x9 hf => ?_)
  refine r_aload_n hB 0 rfl (by decide +kernel : decode cX9_takeToken 12 = .ok (.aload_n 0, 1)) rfl ?_
  refine r_gI hB cf9 1 (by decide) (own := "PulseRemote$Text") rfl (Or.inl k_242) (by decide +kernel) (by decide +kernel : decode cX9_takeToken 13 = .ok (.getfield 15, 3)) hf (fun x13 hf => ?_)
  refine r_icmp_ge hB (tgt := 45) (by decide +kernel : decode cX9_takeToken 16 = .ok (.if_icmp .ge 29, 3)) (by decide) hf (fun _ hf => ?_) (fun _ hf => ?_)
  · obtain ⟨_, hx0, rfl⟩ := xr_inv hf
    exact WW.sub [0] rfl (t_X9_takeToken_45 hB hx0 hk)
  · refine r_aload_n hB 0 rfl (by decide +kernel : decode cX9_takeToken 19 = .ok (.aload_n 0, 1)) rfl ?_
    refine r_aload_n hB 0 rfl (by decide +kernel : decode cX9_takeToken 20 = .ok (.aload_n 0, 1)) rfl ?_
    refine r_gI hB cf9 3 (by decide) (own := "PulseRemote$Text") rfl (Or.inl k_245) (by decide +kernel) (by decide +kernel : decode cX9_takeToken 21 = .ok (.getfield 99, 3)) hf (fun x21 hf => ?_)
    refine r_cVi hB [.int x21] [] cf9 (own := "PulseRemote$Text") rfl cmX9_at imX9_at (Or.inl k_757) (by decide) rfl rfl rfl (Nat.le_of_ble_eq_true rfl) (by decide +kernel : decode cX9_takeToken 24 = .ok (.invokevirtual 102, 3)) (fun z hz => m_X9_at _ _ _ _ hz) rfl hf (fun z24 hf => ?_)
    refine r_bipush hB (v := 32) (by decide +kernel : decode cX9_takeToken 27 = .ok (.bipush 32, 2)) (by decide +kernel) ?_
    refine r_icmp_ne hB (tgt := 45) (by decide +kernel : decode cX9_takeToken 29 = .ok (.if_icmp .ne 16, 3)) (by decide) hf (fun _ hf => ?_) (fun _ hf => ?_)
    · refine r_aload_n hB 0 rfl (by decide +kernel : decode cX9_takeToken 32 = .ok (.aload_n 0, 1)) rfl ?_
      refine r_dup hB (by decide +kernel : decode cX9_takeToken 33 = .ok (.dup, 1)) rfl ?_
      refine r_gI hB cf9 3 (by decide) (own := "PulseRemote$Text") rfl (Or.inl k_245) (by decide +kernel) (by decide +kernel : decode cX9_takeToken 34 = .ok (.getfield 99, 3)) hf (fun x34 hf => ?_)
      refine r_iconst hB (v := 1) (by decide +kernel : decode cX9_takeToken 37 = .ok (.iconst 1, 1)) (by decide +kernel) ?_
      refine r_iadd hB (by decide +kernel : decode cX9_takeToken 38 = .ok (.iadd, 1)) ?_
      refine r_pI hB cf9 3 (by decide) (own := "PulseRemote$Text") rfl (Or.inl k_245) (Or.inl rfl) rfl (by decide +kernel : decode cX9_takeToken 39 = .ok (.putfield 99, 3)) hf (fun m39 hf => ?_)
      refine r_goto hB (tgt := 8) (by decide +kernel : decode cX9_takeToken 42 = .ok (.goto (-34), 3)) (by decide) ?_
      obtain rfl := Option.some.inj hf
      exact WW.sub [0] rfl hk
    · obtain ⟨_, hx0, rfl⟩ := xr_inv hf
      exact WW.sub [0] rfl (t_X9_takeToken_45 hB hx0 hk)
set_option maxHeartbeats 4000000 in
set_option maxRecDepth 100000 in
theorem t_X9_takeToken_8 {X : BX} {D : va_G} {cy : Nat → ClassId} {b : Nat} {r : Option Value} {μ' : MS} (hB : BB X D cy b yX9_takeToken cX9_takeToken 1 none rmX9_takeToken) {l0 : Nat} {μ : MS} {z : MS} (hf : f_X9_takeToken_8 l0 μ = some z) (hk : (fun z : MS => r = none ∧ μ' = z) z) : WW X D cy b r μ' 1 0 0 8 [(0, .ref (b + l0))] [] μ :=
  lp_ind (P := fun s : Nat × MS => WW X D cy b r μ' 1 0 0 8 [(0, .ref (b + s.1))] [] s.2) (Q := (fun z : MS => r = none ∧ μ' = z)) (fun s z hz hk => t_X9_takeToken_8_b hB hz hk) (l0, μ) z hf hk
set_option maxHeartbeats 4000000 in
set_option maxRecDepth 100000 in
theorem t_X9_takeToken_0 {X : BX} {D : va_G} {cy : Nat → ClassId} {b : Nat} {r : Option Value} {μ' : MS} (hB : BB X D cy b yX9_takeToken cX9_takeToken 1 none rmX9_takeToken) {l0 : Nat} {μ : MS} {z : MS} (hf : f_X9_takeToken l0 μ = some z) (hk : (fun z : MS => r = none ∧ μ' = z) z) : WW X D cy b r μ' 1 0 0 0 [(0, .ref (b + l0))] [] μ := by
  unfold f_X9_takeToken at hf
  refine r_aload_n hB 0 rfl (by decide +kernel : decode cX9_takeToken 0 = .ok (.aload_n 0, 1)) rfl ?_
  refine r_aload_n hB 0 rfl (by decide +kernel : decode cX9_takeToken 1 = .ok (.aload_n 0, 1)) rfl ?_
  refine r_gI hB cf9 4 (by decide) (own := "PulseRemote$Text") rfl (Or.inl k_247) (by decide +kernel) (by decide +kernel : decode cX9_takeToken 2 = .ok (.getfield 19, 3)) hf (fun x2 hf => ?_)
  refine r_pI hB cf9 3 (by decide) (own := "PulseRemote$Text") rfl (Or.inl k_245) (Or.inl rfl) rfl (by decide +kernel : decode cX9_takeToken 5 = .ok (.putfield 99, 3)) hf (fun m5 hf => ?_)
  exact WW.sub [0] rfl (t_X9_takeToken_8 hB hf hk)
theorem m_X9_takeToken (l : Launch) (D : va_G) (cy : Nat → ClassId) (b : Nat) {l0 : Nat} {μ : MS} {z : MS} (hf : f_X9_takeToken l0 μ = some z) : Met l yX9_takeToken (.code yX9_takeToken cX9_takeToken 1 none :: GW) rmX9_takeToken (Pw D cy b [.ref (b + l0)] μ) (Qw D cy b (none) (z)) rmX9_takeToken.cells rmX9_takeToken.slots (fun q => b ≤ q) :=
  met_of (by decide) (Nat.le_of_ble_eq_true rfl) (fun X hB _ => (t_X9_takeToken_0 hB hf ⟨rfl, rfl⟩))
-- PulseRemote$Text.isWord(Ljava/lang/String;)Z
theorem k_770 : Cond.methodLink "PulseRemote$Text" 39 yX9_isWord ∈ GW := gw_of (List.mem_of_getElem? (i := 770) (by decide +kernel)) rfl
theorem k_822 : Cond.methodLink "PulseRemote$Text" 43 yX8_protocolsFull ∈ GW := gw_of (List.mem_of_getElem? (i := 822) (by decide +kernel)) rfl
theorem k_823 : Cond.methodLink "PulseRemote$Text" 47 yX9_readProtocol ∈ GW := gw_of (List.mem_of_getElem? (i := 823) (by decide +kernel)) rfl
theorem k_841 : Cond.methodLink "PulseRemote$Text" 52 yX8_buttonsFull ∈ GW := gw_of (List.mem_of_getElem? (i := 841) (by decide +kernel)) rfl
theorem k_842 : Cond.methodLink "PulseRemote$Text" 55 yX9_readButton ∈ GW := gw_of (List.mem_of_getElem? (i := 842) (by decide +kernel)) rfl
section Word
variable {X : BX} {D : va_G} {cy : Nat → ClassId} {b : Nat} {y : MethodName} {cc : ByteArray} {nL : Nat} {ret : Option FieldType} {rm : Room} {r : Option Value} {μ μ' : MS} {kc ks pc : Nat} {lv : List (Nat × Value)} {st : List Value} {t v : Nat} {w : List Int32}
/-- a call on an object, with a text -/
theorem callV2 (hB : BB X D cy b y cc nL ret rm) (hT : StrX b t v w (xs X)) {y' : MethodName} {cc' : ByteArray} {nL' n : Nat} {ret' : Option FieldType} {rm' : Room} {ci idx : Nat} {own : String} {T : u_T} {N : Nat} {ty : Nat → FieldType} {a : Nat} {As rest : List Value} {rv : Option Value} {μ1 : MS} {st0 st1 : List Value}
    (cf : CF ci y'.cls T N ty) (ho : y.cls = own) (cm : CM y' cc' nL' ret' n) (im : IM y') (lk : Cond.methodLink own idx y' ∈ GW) (hroom : rm'.frames + 1 ≤ rm.frames ∧ 8 + (nL' + 11) + rm'.locals ≤ rm.locals) (hn : As.length = n) (hrest : (rest.map fun v => v.category).sum ≤ 8)
    (hd : decode cc pc = .ok (.invokevirtual idx, 3)) (hM : Met (xl X) y' (.code y' cc' nL' ret' :: GW) rm' (Pw2 D cy b (.ref (b + a) :: As) μ t v w) (Qw D cy b rv μ1) rm'.cells rm'.slots (fun q => b ≤ q)) (ha : μ.1[a]? = some (ci, 0)) (hst0 : st0 = As.reverse ++ .ref (b + a) :: rest) (hst1 : st1 = rv.toList ++ rest)
    (k : WW X D cy b r μ' nL kc ks (pc + 3) lv st1 μ1) : WW X D cy b r μ' nL (kc + rm'.cells) (ks + rm'.slots) pc lv st0 μ := by
  subst ho
  subst hst0
  intro H locs ls cells slots g1 g2 hW hS hl
  have hts := hB.2.2.2.2.1
  have hK := hB.2.2.2.2.2.2.2.1
  have hR : xR X = rm := hB.2.2.2.2.2.2.2.2.2.2.1
  have hat := hW.2 a _ ha
  rw [me_obj cf.2.1] at hat
  have hrecv := va_recv hK (va_P1 hat) cf.1 (q0 := 0) rfl
  have S : CallFix (xp X) (xm X) (xc X) cc nL (xs X) (xa X) GW y.cls := ⟨hB.1, hB.2.1, hB.2.2.1, hB.2.2.2.1, hts⟩
  have hPV : PreV (xs X) H y'.cls (b + a) (Pw2 D cy b (.ref (b + a) :: As) μ t v w) As := ⟨Pw2.blind, hrecv, pre_w2 hB hT hW hS⟩
  refine call_end hB (a := (.ref (b + a) :: As : List Value).toArray) hst1 k g1 g2 hS hl ?_
  have hT2 : GoodIn GW (wsV y.cls idx y'.cls y' (.code y' cc' nL' ret' :: GW)) := gw_in (fun w hw => by
    simp only [wsV, List.mem_append, List.mem_cons, List.not_mem_nil, or_false] at hw
    rcases hw with (rfl | rfl | rfl | rfl) | rfl | h
    · exact lk
    · exact im.1
    · exact im.2
    · exact cm.2.1
    · exact cm.1
    · exact h)
  exact va_runV S hM (cwV n hts hT2 rfl rfl rfl ⟨rfl, cm.2.2.1, cm.2.2.2.1, cm.2.2.2.2⟩ (by rw [hR]; exact hroom)) hPV rfl hn hl.1 rfl (by show 2 * 0 + _ ≤ 8; omega) hd ⟨by omega, by omega⟩
set_option maxHeartbeats 4000000 in
theorem t_word_28 (hB : BB X D cy b yX9_isWord cX9_isWord 3 (some .boolean) rmX9_isWord) (hT : StrX b t v w (xs X)) (hw : okW w) {l0 : Nat} (s : Nat × List Int32 × Int32 × MS) (z : (Nat × List Int32 × Int32 × MS) ⊕ (Int32 × MS)) (hf : f_X9_isWord_28_b s.1 s.2.1 s.2.2.1 s.2.2.2 = some z)
    (hk : Sum.elim (fun s : Nat × List Int32 × Int32 × MS => s.1 = l0 → s.2.1 = w → WW X D cy b r μ' 3 0 0 28 [(0, .ref (b + l0)), (1, .ref t), (2, .int s.2.2.1)] [] s.2.2.2) (fun z : Int32 × MS => r = some (.int z.1) ∧ μ' = z.2) z) (h1 : s.1 = l0) (h2 : s.2.1 = w) : WW X D cy b r μ' 3 0 0 28 [(0, .ref (b + l0)), (1, .ref t), (2, .int s.2.2.1)] [] s.2.2.2 := by
  obtain ⟨a0, a1, a2, μ⟩ := s
  simp only at h1 h2 hf ⊢
  subst h1 h2
  have h100 := hw.1.2
  unfold f_X9_isWord_28_b at hf
  refine r_iload_n hB 2 rfl (by decide +kernel : decode cX9_isWord 28 = .ok (.iload_n 2, 1)) rfl ?_
  refine r_aload_n hB 1 rfl (by decide +kernel : decode cX9_isWord 29 = .ok (.aload_n 1, 1)) rfl ?_
  refine callT0 (kc := 0) (ks := 0) (rm' := rmJ_len) (As := []) (rest := [.int a2]) (rv := some (.int (Int32.ofNat a1.length))) (μ1 := μ) hB hT rfl (own := "PulseRemote$Text") rfl cmJ_len imJ_len k_774 (by decide) rfl (Nat.le_of_ble_eq_true rfl) (by decide +kernel : decode cX9_isWord 30 = .ok (.invokevirtual 110, 3)) (m_len _ D cy b hw) rfl rfl ?_
  refine r_icmp_ge hB (tgt := 62) (by decide +kernel : decode cX9_isWord 33 = .ok (.if_icmp .ge 29, 3)) (by decide) hf (fun _ hf => ?_) (fun _ hf => ?_)
  · obtain rfl := Option.some.inj hf
    obtain ⟨rfl, rfl⟩ := hk
    refine r_iconst hB (v := 1) (by decide +kernel : decode cX9_isWord 62 = .ok (.iconst 1, 1)) (by decide +kernel) ?_
    exact r_zret hB (Or.inr rfl) (by decide +kernel : decode cX9_isWord 63 = .ok (.ireturn, 1))
  · refine r_aload_n hB 0 rfl (by decide +kernel : decode cX9_isWord 36 = .ok (.aload_n 0, 1)) rfl ?_
    refine r_aload_n hB 0 rfl (by decide +kernel : decode cX9_isWord 37 = .ok (.aload_n 0, 1)) rfl ?_
    refine r_gI hB cf9 3 (by decide) (own := "PulseRemote$Text") rfl (Or.inl k_245) (by decide +kernel) (by decide +kernel : decode cX9_isWord 38 = .ok (.getfield 99, 3)) hf (fun x38 hf => ?_)
    refine r_iload_n hB 2 rfl (by decide +kernel : decode cX9_isWord 41 = .ok (.iload_n 2, 1)) rfl ?_
    refine r_iadd hB (by decide +kernel : decode cX9_isWord 42 = .ok (.iadd, 1)) ?_
    refine r_cVi hB [.int (x38 + a2)] [] cf9 (own := "PulseRemote$Text") rfl cmX9_at imX9_at (Or.inl k_757) (by decide) rfl rfl rfl (Nat.le_of_ble_eq_true rfl) (by decide +kernel : decode cX9_isWord 43 = .ok (.invokevirtual 102, 3)) (fun z hz => m_X9_at _ _ _ _ hz) rfl hf (fun z43 hf => ?_)
    obtain ⟨x48, hx, hf⟩ := bind_inv hf
    unfold wat at hx
    split at hx
    case isFalse => cases hx
    rename_i hc
    obtain ⟨hc0, hc1⟩ := hc
    obtain ⟨k, hk31, hk2⟩ := nI_of (Int32.not_lt.mpr hc0)
    have hx := Option.some.inj hx
    rw [hk2, nI_clamp hk31] at hc1 hx
    refine r_aload_n hB 1 rfl (by decide +kernel : decode cX9_isWord 46 = .ok (.aload_n 1, 1)) rfl ?_
    refine r_iload_n hB 2 rfl (by decide +kernel : decode cX9_isWord 47 = .ok (.iload_n 2, 1)) rfl ?_
    refine callT0 (kc := 0) (ks := 0) (rm' := rmJ_chA) (As := [.int (nI k)]) (rest := [.int z43.1]) (rv := some (.int x48)) (μ1 := z43.2) hB hT rfl (own := "PulseRemote$Text") rfl cmJ_chA imJ_chA k_784 (by decide) rfl (Nat.le_of_ble_eq_true rfl) (by decide +kernel : decode cX9_isWord 48 = .ok (.invokevirtual 116, 3)) (by rw [← hx]; exact m_chA _ D cy b hw hc1) (by rw [hk2]; rfl) rfl ?_
    refine r_icmp_eq hB (tgt := 56) (by decide +kernel : decode cX9_isWord 51 = .ok (.if_icmp .eq 5, 3)) (by decide) hf (fun _ hf => ?_) (fun _ hf => ?_)
    · refine r_iincB hB 2 rfl (by decide +kernel : decode cX9_isWord 56 = .ok (.iinc 2 1, 3)) (w := 1) (by decide +kernel) (by decide) hf (fun v56 hf => ?_)
      refine ww_lv (lv' := [(2, .int v56), (0, .ref (b + a0)), (1, .ref t)]) rfl ?_
      refine r_goto hB (tgt := 28) (by decide +kernel : decode cX9_isWord 59 = .ok (.goto (-31), 3)) (by decide) ?_
      obtain rfl := Option.some.inj hf
      exact WW.sub [1, 2, 0] rfl (hk rfl rfl)
    · refine r_iconst hB (v := 0) (by decide +kernel : decode cX9_isWord 54 = .ok (.iconst 0, 1)) (by decide +kernel) ?_
      obtain rfl := Option.some.inj hf
      obtain ⟨rfl, rfl⟩ := hk
      exact r_zret hB (Or.inl rfl) (by decide +kernel : decode cX9_isWord 55 = .ok (.ireturn, 1))
set_option maxHeartbeats 4000000 in
theorem t_word (hB : BB X D cy b yX9_isWord cX9_isWord 3 (some .boolean) rmX9_isWord) (hT : StrX b t v w (xs X)) (hw : okW w) {l0 : Nat} {z : Int32 × MS} (hf : f_X9_isWord l0 w μ = some z) : WW X D cy b (some (.int z.1)) z.2 3 0 0 0 [(0, .ref (b + l0)), (1, .ref t)] [] μ := by
  unfold f_X9_isWord at hf
  have no : ∀ (μ1 : MS) (lv : List (Nat × Value)), some ((0 : Int32), μ1) = some z → WW X D cy b (some (.int z.1)) z.2 3 0 0 24 lv [] μ1 := by
    intro μ1 lv hf
    obtain rfl := Option.some.inj hf
    refine r_iconst hB (v := 0) (by decide +kernel : decode cX9_isWord 24 = .ok (.iconst 0, 1)) (by decide +kernel) ?_
    exact r_zret hB (Or.inl rfl) (by decide +kernel : decode cX9_isWord 25 = .ok (.ireturn, 1))
  refine r_aload_n hB 0 rfl (by decide +kernel : decode cX9_isWord 0 = .ok (.aload_n 0, 1)) rfl ?_
  refine r_gI hB cf9 2 (by decide) (own := "PulseRemote$Text") rfl (Or.inl k_244) (by decide +kernel) (by decide +kernel : decode cX9_isWord 1 = .ok (.getfield 30, 3)) hf (fun x1 hf => ?_)
  refine r_iconst hB (v := 1) (by decide +kernel : decode cX9_isWord 4 = .ok (.iconst 1, 1)) (by decide +kernel) ?_
  refine r_icmp_ne hB (tgt := 24) (by decide +kernel : decode cX9_isWord 5 = .ok (.if_icmp .ne 19, 3)) (by decide) hf (fun _ hf => ?_) (fun _ hf => no _ _ hf)
  refine r_aload_n hB 0 rfl (by decide +kernel : decode cX9_isWord 8 = .ok (.aload_n 0, 1)) rfl ?_
  refine r_gI hB cf9 4 (by decide) (own := "PulseRemote$Text") rfl (Or.inl k_247) (by decide +kernel) (by decide +kernel : decode cX9_isWord 9 = .ok (.getfield 19, 3)) hf (fun x9 hf => ?_)
  refine r_aload_n hB 0 rfl (by decide +kernel : decode cX9_isWord 12 = .ok (.aload_n 0, 1)) rfl ?_
  refine r_gI hB cf9 3 (by decide) (own := "PulseRemote$Text") rfl (Or.inl k_245) (by decide +kernel) (by decide +kernel : decode cX9_isWord 13 = .ok (.getfield 99, 3)) hf (fun x13 hf => ?_)
  refine r_isub hB (by decide +kernel : decode cX9_isWord 16 = .ok (.isub, 1)) ?_
  refine r_aload_n hB 1 rfl (by decide +kernel : decode cX9_isWord 17 = .ok (.aload_n 1, 1)) rfl ?_
  refine callT0 (kc := 0) (ks := 0) (rm' := rmJ_len) (As := []) (rest := [.int (x9 - x13)]) (rv := some (.int (Int32.ofNat w.length))) (μ1 := μ) hB hT rfl (own := "PulseRemote$Text") rfl cmJ_len imJ_len k_774 (by decide) rfl (Nat.le_of_ble_eq_true rfl) (by decide +kernel : decode cX9_isWord 18 = .ok (.invokevirtual 110, 3)) (m_len _ D cy b hw) rfl rfl ?_
  refine r_icmp_eq hB (tgt := 26) (by decide +kernel : decode cX9_isWord 21 = .ok (.if_icmp .eq 5, 3)) (by decide) hf (fun _ hf => ?_) (fun _ hf => no _ _ hf)
  refine r_iconst hB (v := 0) (by decide +kernel : decode cX9_isWord 26 = .ok (.iconst 0, 1)) (by decide +kernel) ?_
  refine r_istore_n hB (by decide +kernel : decode cX9_isWord 27 = .ok (.istore_n 2, 1)) rfl (by decide) rfl ?_
  refine ww_lv (lv' := [(2, .int 0), (0, .ref (b + l0)), (1, .ref t)]) rfl ?_
  refine WW.sub [1, 2, 0] rfl ?_
  unfold f_X9_isWord_28 at hf
  exact lp_ind (P := fun s : Nat × List Int32 × Int32 × MS => s.1 = l0 → s.2.1 = w → WW X D cy b (some (.int z.1)) z.2 3 0 0 28 [(0, .ref (b + l0)), (1, .ref t), (2, .int s.2.2.1)] [] s.2.2.2) (Q := fun q : Int32 × MS => some (Value.int z.1) = some (.int q.1) ∧ z.2 = q.2) (fun s q hq hk => t_word_28 hB hT hw s q hq hk) (l0, w, 0, μ) z hf ⟨rfl, rfl⟩ rfl rfl
theorem m_X9_isWord (l : Launch) (D : va_G) (cy : Nat → ClassId) (b : Nat) (hw : okW w) {l0 : Nat} {μ : MS} {z : Int32 × MS} (hf : f_X9_isWord l0 w μ = some z) : Met l yX9_isWord (.code yX9_isWord cX9_isWord 3 (some .boolean) :: GW) rmX9_isWord (Pw2 D cy b [.ref (b + l0), .ref t] μ t v w) (Qw D cy b (some (.int z.1)) (z.2)) rmX9_isWord.cells rmX9_isWord.slots (fun q => b ≤ q) :=
  met_of2 (by decide) (Nat.le_of_ble_eq_true rfl) (fun X hB hT _ => t_word hB hT hw hf)
theorem r_ldcS (hB : BB X D cy b y cc nL ret rm) {own tx : String} {idx q : Nat} (ho : y.cls = own) (hZ : vk_R own idx tx q (xs X)) (hd : decode cc pc = .ok (.ldc idx, 2)) (k : WW X D cy b r μ' nL kc ks (pc + 2) lv (.ref q :: st) μ) : WW X D cy b r μ' nL kc ks pc lv st μ := by
  subst ho
  exact fun H locs ls cells slots g1 g2 hW hS hl => va_ldcS hB.1 hB.2.1 hB.2.2.2.1 hZ hd (k H locs ls cells slots g1 g2 hW hS hl)
theorem okW_p : okW [112, 114, 111, 116, 111] := by unfold okW; decide +kernel
theorem okW_b : okW [98, 117, 116, 116, 111, 110] := by unfold okW; decide +kernel
end Word
-- PulseRemote$Text.readNumber(II)I
set_option maxHeartbeats 4000000 in
set_option maxRecDepth 100000 in
theorem t_X9_readNumber_89 {X : BX} {D : va_G} {cy : Nat → ClassId} {b : Nat} {r : Option Value} {μ' : MS} (hB : BB X D cy b yX9_readNumber cX9_readNumber 6 (some .int) rmX9_readNumber) {l1 : Int32} {l2 : Int32} {l4 : Int32} {μ : MS} {z : (Int32 × MS)} (hf : f_X9_readNumber_89 l1 l2 l4 μ = some z) (hk : (fun z : Int32 × MS => r = some (.int z.1) ∧ μ' = z.2) z) : WW X D cy b r μ' 6 0 0 89 [(1, .int l1), (2, .int l2), (4, .int l4)] [] μ := by
  unfold f_X9_readNumber_89 at hf
  refine r_iload hB 2 rfl (by decide +kernel : decode cX9_readNumber 89 = .ok (.iload 4, 2)) ?_
  refine r_iload_n hB 0 rfl (by decide +kernel : decode cX9_readNumber 91 = .ok (.iload_n 1, 1)) rfl ?_
  refine r_iload_n hB 1 rfl (by decide +kernel : decode cX9_readNumber 92 = .ok (.iload_n 2, 1)) rfl ?_
  refine r_cSi hB [.int l4, .int l1, .int l2] [] (own := "PulseRemote$Text") rfl cmX11_inRange smX11_inRange (Or.inr ⟨_, k_831⟩) (by decide) rfl rfl rfl (Nat.le_of_ble_eq_true rfl) (by decide +kernel : decode cX9_readNumber 93 = .ok (.invokestatic 106, 3)) (fun z hz => m_X11_inRange _ _ _ _ hz) rfl hf (fun z93 hf => ?_)
  refine r_if_eq hB (tgt := 104) (by decide +kernel : decode cX9_readNumber 96 = .ok (.ifCond .eq 8, 3)) (by decide) hf (fun _ hf => ?_) (fun _ hf => ?_)
  · refine r_bipush hB (v := (-9)) (by decide +kernel : decode cX9_readNumber 104 = .ok (.bipush (-9), 2)) (by decide +kernel) ?_
    obtain rfl := Option.some.inj hf
    obtain ⟨rfl, rfl⟩ := hk
    exact r_iret hB (by decide +kernel : decode cX9_readNumber 106 = .ok (.ireturn, 1))
  · refine r_iload hB 2 rfl (by decide +kernel : decode cX9_readNumber 99 = .ok (.iload 4, 2)) ?_
    refine r_goto hB (tgt := 106) (by decide +kernel : decode cX9_readNumber 101 = .ok (.goto 5, 3)) (by decide) ?_
    obtain rfl := Option.some.inj hf
    obtain ⟨rfl, rfl⟩ := hk
    exact r_iret hB (by decide +kernel : decode cX9_readNumber 106 = .ok (.ireturn, 1))
set_option maxHeartbeats 4000000 in
set_option maxRecDepth 100000 in
theorem t_X9_readNumber_57_b {X : BX} {D : va_G} {cy : Nat → ClassId} {b : Nat} {r : Option Value} {μ' : MS} (hB : BB X D cy b yX9_readNumber cX9_readNumber 6 (some .int) rmX9_readNumber) {l0 : Nat} {l1 : Int32} {l2 : Int32} {l4 : Int32} {l5 : Int32} {μ : MS} {z : ((Nat × Int32 × Int32 × Int32 × Int32 × MS) ⊕ (Int32 × MS))} (hf : f_X9_readNumber_57_b l0 l1 l2 l4 l5 μ = some z) (hk : (Sum.elim (fun s : Nat × Int32 × Int32 × Int32 × Int32 × MS => WW X D cy b r μ' 6 0 0 57 [(0, .ref (b + s.1)), (1, .int s.2.1), (2, .int s.2.2.1), (4, .int s.2.2.2.1), (5, .int s.2.2.2.2.1)] [] s.2.2.2.2.2) (fun z : Int32 × MS => r = some (.int z.1) ∧ μ' = z.2)) z) : WW X D cy b r μ' 6 0 0 57 [(0, .ref (b + l0)), (1, .int l1), (2, .int l2), (4, .int l4), (5, .int l5)] [] μ := by
  unfold f_X9_readNumber_57_b at hf
  refine r_iload hB 4 rfl (by decide +kernel : decode cX9_readNumber 57 = .ok (.iload 5, 2)) ?_
  refine r_aload_n hB 0 rfl (by decide +kernel : decode cX9_readNumber 59 = .ok (.aload_n 0, 1)) rfl ?_
  refine r_gI hB cf9 4 (by decide) (own := "PulseRemote$Text") rfl (Or.inl k_247) (by decide +kernel) (by decide +kernel : decode cX9_readNumber 60 = .ok (.getfield 19, 3)) hf (fun x60 hf => ?_)
  refine r_icmp_ge hB (tgt := 89) (by decide +kernel : decode cX9_readNumber 63 = .ok (.if_icmp .ge 26, 3)) (by decide) hf (fun _ hf => ?_) (fun _ hf => ?_)
  · obtain ⟨_, hx0, rfl⟩ := xr_inv hf
    exact WW.sub [1, 2, 3] rfl (t_X9_readNumber_89 hB hx0 hk)
  · refine r_bipush hB (v := 10) (by decide +kernel : decode cX9_readNumber 66 = .ok (.bipush 10, 2)) (by decide +kernel) ?_
    refine r_iload hB 3 rfl (by decide +kernel : decode cX9_readNumber 68 = .ok (.iload 4, 2)) ?_
    refine r_imul hB (by decide +kernel : decode cX9_readNumber 70 = .ok (.imul, 1)) ?_
    refine r_aload_n hB 0 rfl (by decide +kernel : decode cX9_readNumber 71 = .ok (.aload_n 0, 1)) rfl ?_
    refine r_iload hB 4 rfl (by decide +kernel : decode cX9_readNumber 72 = .ok (.iload 5, 2)) ?_
    refine r_cVi hB [.int l5] [.int (10 * l4)] cf9 (own := "PulseRemote$Text") rfl cmX9_at imX9_at (Or.inl k_757) (by decide) rfl rfl rfl (Nat.le_of_ble_eq_true rfl) (by decide +kernel : decode cX9_readNumber 74 = .ok (.invokevirtual 102, 3)) (fun z hz => m_X9_at _ _ _ _ hz) rfl hf (fun z74 hf => ?_)
    refine r_bipush hB (v := 48) (by decide +kernel : decode cX9_readNumber 77 = .ok (.bipush 48, 2)) (by decide +kernel) ?_
    refine r_isub hB (by decide +kernel : decode cX9_readNumber 79 = .ok (.isub, 1)) ?_
    refine r_iadd hB (by decide +kernel : decode cX9_readNumber 80 = .ok (.iadd, 1)) ?_
    refine r_name hf (fun v81 hf => ?_)
    refine r_istore hB (by decide +kernel : decode cX9_readNumber 81 = .ok (.istore 4, 2)) (by decide) rfl ?_
    refine ww_lv (lv' := [(4, .int v81), (0, .ref (b + l0)), (1, .int l1), (2, .int l2), (5, .int l5)]) rfl ?_
    refine r_iincB hB 4 rfl (by decide +kernel : decode cX9_readNumber 83 = .ok (.iinc 5 1, 3)) (w := 1) (by decide +kernel) (by decide) hf (fun v83 hf => ?_)
    refine ww_lv (lv' := [(5, .int v83), (4, .int v81), (0, .ref (b + l0)), (1, .int l1), (2, .int l2)]) rfl ?_
    refine r_goto hB (tgt := 57) (by decide +kernel : decode cX9_readNumber 86 = .ok (.goto (-29), 3)) (by decide) ?_
    obtain rfl := Option.some.inj hf
    exact WW.sub [2, 3, 4, 1, 0] rfl hk
set_option maxHeartbeats 4000000 in
set_option maxRecDepth 100000 in
theorem t_X9_readNumber_57 {X : BX} {D : va_G} {cy : Nat → ClassId} {b : Nat} {r : Option Value} {μ' : MS} (hB : BB X D cy b yX9_readNumber cX9_readNumber 6 (some .int) rmX9_readNumber) {l0 : Nat} {l1 : Int32} {l2 : Int32} {l4 : Int32} {l5 : Int32} {μ : MS} {z : (Int32 × MS)} (hf : f_X9_readNumber_57 l0 l1 l2 l4 l5 μ = some z) (hk : (fun z : Int32 × MS => r = some (.int z.1) ∧ μ' = z.2) z) : WW X D cy b r μ' 6 0 0 57 [(0, .ref (b + l0)), (1, .int l1), (2, .int l2), (4, .int l4), (5, .int l5)] [] μ :=
  lp_ind (P := fun s : Nat × Int32 × Int32 × Int32 × Int32 × MS => WW X D cy b r μ' 6 0 0 57 [(0, .ref (b + s.1)), (1, .int s.2.1), (2, .int s.2.2.1), (4, .int s.2.2.2.1), (5, .int s.2.2.2.2.1)] [] s.2.2.2.2.2) (Q := (fun z : Int32 × MS => r = some (.int z.1) ∧ μ' = z.2)) (fun s z hz hk => t_X9_readNumber_57_b hB hz hk) (l0, l1, l2, l4, l5, μ) z hf hk
set_option maxHeartbeats 4000000 in
set_option maxRecDepth 100000 in
theorem t_X9_readNumber_48 {X : BX} {D : va_G} {cy : Nat → ClassId} {b : Nat} {r : Option Value} {μ' : MS} (hB : BB X D cy b yX9_readNumber cX9_readNumber 6 (some .int) rmX9_readNumber) {l0 : Nat} {l1 : Int32} {l2 : Int32} {μ : MS} {z : (Int32 × MS)} (hf : f_X9_readNumber_48 l0 l1 l2 μ = some z) (hk : (fun z : Int32 × MS => r = some (.int z.1) ∧ μ' = z.2) z) : WW X D cy b r μ' 6 0 0 48 [(0, .ref (b + l0)), (1, .int l1), (2, .int l2)] [] μ := by
  unfold f_X9_readNumber_48 at hf
  refine r_iconst hB (v := 0) (by decide +kernel : decode cX9_readNumber 48 = .ok (.iconst 0, 1)) (by decide +kernel) ?_
  refine r_istore hB (by decide +kernel : decode cX9_readNumber 49 = .ok (.istore 4, 2)) (by decide) rfl ?_
  refine ww_lv (lv' := [(4, .int 0), (0, .ref (b + l0)), (1, .int l1), (2, .int l2)]) rfl ?_
  refine r_aload_n hB 1 rfl (by decide +kernel : decode cX9_readNumber 51 = .ok (.aload_n 0, 1)) rfl ?_
  refine r_gI hB cf9 3 (by decide) (own := "PulseRemote$Text") rfl (Or.inl k_245) (by decide +kernel) (by decide +kernel : decode cX9_readNumber 52 = .ok (.getfield 99, 3)) hf (fun x52 hf => ?_)
  refine r_istore hB (by decide +kernel : decode cX9_readNumber 55 = .ok (.istore 5, 2)) (by decide) rfl ?_
  refine ww_lv (lv' := [(5, .int x52), (4, .int 0), (0, .ref (b + l0)), (1, .int l1), (2, .int l2)]) rfl ?_
  exact WW.sub [2, 3, 4, 1, 0] rfl (t_X9_readNumber_57 hB hf hk)
set_option maxHeartbeats 4000000 in
set_option maxRecDepth 100000 in
theorem t_X9_readNumber_0 {X : BX} {D : va_G} {cy : Nat → ClassId} {b : Nat} {r : Option Value} {μ' : MS} (hB : BB X D cy b yX9_readNumber cX9_readNumber 6 (some .int) rmX9_readNumber) {l0 : Nat} {l1 : Int32} {l2 : Int32} {μ : MS} {z : (Int32 × MS)} (hf : f_X9_readNumber l0 l1 l2 μ = some z) (hk : (fun z : Int32 × MS => r = some (.int z.1) ∧ μ' = z.2) z) : WW X D cy b r μ' 6 0 0 0 [(0, .ref (b + l0)), (1, .int l1), (2, .int l2)] [] μ := by
  unfold f_X9_readNumber at hf
  refine r_aload_n hB 0 rfl (by decide +kernel : decode cX9_readNumber 0 = .ok (.aload_n 0, 1)) rfl ?_
  refine r_cVv hB [] [] cf9 (own := "PulseRemote$Text") rfl cmX9_takeToken imX9_takeToken (Or.inl k_753) (by decide) rfl rfl rfl (Nat.le_of_ble_eq_true rfl) (by decide +kernel : decode cX9_readNumber 1 = .ok (.invokevirtual 27, 3)) (fun z hz => m_X9_takeToken _ _ _ _ hz) rfl hf (fun z1 hf => ?_)
  refine r_aload_n hB 0 rfl (by decide +kernel : decode cX9_readNumber 4 = .ok (.aload_n 0, 1)) rfl ?_
  refine r_gI hB cf9 4 (by decide) (own := "PulseRemote$Text") rfl (Or.inl k_247) (by decide +kernel) (by decide +kernel : decode cX9_readNumber 5 = .ok (.getfield 19, 3)) hf (fun x5 hf => ?_)
  refine r_aload_n hB 0 rfl (by decide +kernel : decode cX9_readNumber 8 = .ok (.aload_n 0, 1)) rfl ?_
  refine r_gI hB cf9 3 (by decide) (own := "PulseRemote$Text") rfl (Or.inl k_245) (by decide +kernel) (by decide +kernel : decode cX9_readNumber 9 = .ok (.getfield 99, 3)) hf (fun x9 hf => ?_)
  refine r_isub hB (by decide +kernel : decode cX9_readNumber 12 = .ok (.isub, 1)) ?_
  refine r_name hf (fun v13 hf => ?_)
  refine r_istore_n hB (by decide +kernel : decode cX9_readNumber 13 = .ok (.istore_n 3, 1)) rfl (by decide) rfl ?_
  refine ww_lv (lv' := [(3, .int v13), (0, .ref (b + l0)), (1, .int l1), (2, .int l2)]) rfl ?_
  refine r_aload_n hB 1 rfl (by decide +kernel : decode cX9_readNumber 14 = .ok (.aload_n 0, 1)) rfl ?_
  refine r_gI hB cf9 2 (by decide) (own := "PulseRemote$Text") rfl (Or.inl k_244) (by decide +kernel) (by decide +kernel : decode cX9_readNumber 15 = .ok (.getfield 30, 3)) hf (fun x15 hf => ?_)
  refine r_iconst hB (v := 2) (by decide +kernel : decode cX9_readNumber 18 = .ok (.iconst 2, 1)) (by decide +kernel) ?_
  refine r_icmp_ne hB (tgt := 45) (by decide +kernel : decode cX9_readNumber 19 = .ok (.if_icmp .ne 26, 3)) (by decide) hf (fun _ hf => ?_) (fun _ hf => ?_)
  · refine r_iload_n hB 0 rfl (by decide +kernel : decode cX9_readNumber 22 = .ok (.iload_n 3, 1)) rfl ?_
    refine r_iconst hB (v := 5) (by decide +kernel : decode cX9_readNumber 23 = .ok (.iconst 5, 1)) (by decide +kernel) ?_
    refine r_icmp_gt hB (tgt := 45) (by decide +kernel : decode cX9_readNumber 24 = .ok (.if_icmp .gt 21, 3)) (by decide) hf (fun _ hf => ?_) (fun _ hf => ?_)
    · refine r_bipush hB (v := (-9)) (by decide +kernel : decode cX9_readNumber 45 = .ok (.bipush (-9), 2)) (by decide +kernel) ?_
      obtain rfl := Option.some.inj hf
      obtain ⟨rfl, rfl⟩ := hk
      exact r_iret hB (by decide +kernel : decode cX9_readNumber 47 = .ok (.ireturn, 1))
    · refine r_iload_n hB 0 rfl (by decide +kernel : decode cX9_readNumber 27 = .ok (.iload_n 3, 1)) rfl ?_
      refine r_iconst hB (v := 1) (by decide +kernel : decode cX9_readNumber 28 = .ok (.iconst 1, 1)) (by decide +kernel) ?_
      refine r_icmp_le hB (tgt := 48) (by decide +kernel : decode cX9_readNumber 29 = .ok (.if_icmp .le 19, 3)) (by decide) hf (fun _ hf => ?_) (fun _ hf => ?_)
      · exact WW.sub [1, 2, 3] rfl (t_X9_readNumber_48 hB hf hk)
      · refine r_aload_n hB 1 rfl (by decide +kernel : decode cX9_readNumber 32 = .ok (.aload_n 0, 1)) rfl ?_
        refine r_aload_n hB 1 rfl (by decide +kernel : decode cX9_readNumber 33 = .ok (.aload_n 0, 1)) rfl ?_
        refine r_gI hB cf9 3 (by decide) (own := "PulseRemote$Text") rfl (Or.inl k_245) (by decide +kernel) (by decide +kernel : decode cX9_readNumber 34 = .ok (.getfield 99, 3)) hf (fun x34 hf => ?_)
        refine r_cVi hB [.int x34] [] cf9 (own := "PulseRemote$Text") rfl cmX9_at imX9_at (Or.inl k_757) (by decide) rfl rfl rfl (Nat.le_of_ble_eq_true rfl) (by decide +kernel : decode cX9_readNumber 37 = .ok (.invokevirtual 102, 3)) (fun z hz => m_X9_at _ _ _ _ hz) rfl hf (fun z37 hf => ?_)
        refine r_bipush hB (v := 48) (by decide +kernel : decode cX9_readNumber 40 = .ok (.bipush 48, 2)) (by decide +kernel) ?_
        refine r_icmp_ne hB (tgt := 48) (by decide +kernel : decode cX9_readNumber 42 = .ok (.if_icmp .ne 6, 3)) (by decide) hf (fun _ hf => ?_) (fun _ hf => ?_)
        · refine r_bipush hB (v := (-9)) (by decide +kernel : decode cX9_readNumber 45 = .ok (.bipush (-9), 2)) (by decide +kernel) ?_
          obtain rfl := Option.some.inj hf
          obtain ⟨rfl, rfl⟩ := hk
          exact r_iret hB (by decide +kernel : decode cX9_readNumber 47 = .ok (.ireturn, 1))
        · exact WW.sub [1, 2, 3] rfl (t_X9_readNumber_48 hB hf hk)
  · refine r_bipush hB (v := (-9)) (by decide +kernel : decode cX9_readNumber 45 = .ok (.bipush (-9), 2)) (by decide +kernel) ?_
    obtain rfl := Option.some.inj hf
    obtain ⟨rfl, rfl⟩ := hk
    exact r_iret hB (by decide +kernel : decode cX9_readNumber 47 = .ok (.ireturn, 1))
theorem m_X9_readNumber (l : Launch) (D : va_G) (cy : Nat → ClassId) (b : Nat) {l0 : Nat} {l1 : Int32} {l2 : Int32} {μ : MS} {z : Int32 × MS} (hf : f_X9_readNumber l0 l1 l2 μ = some z) : Met l yX9_readNumber (.code yX9_readNumber cX9_readNumber 6 (some .int) :: GW) rmX9_readNumber (Pw D cy b [.ref (b + l0), .int l1, .int l2] μ) (Qw D cy b (some (.int z.1)) (z.2)) rmX9_readNumber.cells rmX9_readNumber.slots (fun q => b ≤ q) :=
  met_of (by decide) (Nat.le_of_ble_eq_true rfl) (fun X hB _ => (t_X9_readNumber_0 hB hf ⟨rfl, rfl⟩))
-- PulseRemote$Text.readEnd()Z
set_option maxHeartbeats 4000000 in
set_option maxRecDepth 100000 in
theorem t_X9_readEnd_0 {X : BX} {D : va_G} {cy : Nat → ClassId} {b : Nat} {r : Option Value} {μ' : MS} (hB : BB X D cy b yX9_readEnd cX9_readEnd 1 (some .boolean) rmX9_readEnd) {l0 : Nat} {μ : MS} {z : (Int32 × MS)} (hf : f_X9_readEnd l0 μ = some z) (hk : (fun z : Int32 × MS => r = some (.int z.1) ∧ μ' = z.2) z) : WW X D cy b r μ' 1 0 0 0 [(0, .ref (b + l0))] [] μ := by
  unfold f_X9_readEnd at hf
  refine r_aload_n hB 0 rfl (by decide +kernel : decode cX9_readEnd 0 = .ok (.aload_n 0, 1)) rfl ?_
  refine r_cVv hB [] [] cf9 (own := "PulseRemote$Text") rfl cmX9_takeToken imX9_takeToken (Or.inl k_753) (by decide) rfl rfl rfl (Nat.le_of_ble_eq_true rfl) (by decide +kernel : decode cX9_readEnd 1 = .ok (.invokevirtual 27, 3)) (fun z hz => m_X9_takeToken _ _ _ _ hz) rfl hf (fun z1 hf => ?_)
  refine r_aload_n hB 0 rfl (by decide +kernel : decode cX9_readEnd 4 = .ok (.aload_n 0, 1)) rfl ?_
  refine r_gI hB cf9 2 (by decide) (own := "PulseRemote$Text") rfl (Or.inl k_244) (by decide +kernel) (by decide +kernel : decode cX9_readEnd 5 = .ok (.getfield 30, 3)) hf (fun x5 hf => ?_)
  refine r_iconst hB (v := 3) (by decide +kernel : decode cX9_readEnd 8 = .ok (.iconst 3, 1)) (by decide +kernel) ?_
  refine r_icmp_ne hB (tgt := 16) (by decide +kernel : decode cX9_readEnd 9 = .ok (.if_icmp .ne 7, 3)) (by decide) hf (fun _ hf => ?_) (fun _ hf => ?_)
  · refine r_iconst hB (v := 1) (by decide +kernel : decode cX9_readEnd 12 = .ok (.iconst 1, 1)) (by decide +kernel) ?_
    refine r_goto hB (tgt := 17) (by decide +kernel : decode cX9_readEnd 13 = .ok (.goto 4, 3)) (by decide) ?_
    obtain rfl := Option.some.inj hf
    obtain ⟨rfl, rfl⟩ := hk
    exact r_zret hB (Or.inr rfl) (by decide +kernel : decode cX9_readEnd 17 = .ok (.ireturn, 1))
  · refine r_iconst hB (v := 0) (by decide +kernel : decode cX9_readEnd 16 = .ok (.iconst 0, 1)) (by decide +kernel) ?_
    obtain rfl := Option.some.inj hf
    obtain ⟨rfl, rfl⟩ := hk
    exact r_zret hB (Or.inl rfl) (by decide +kernel : decode cX9_readEnd 17 = .ok (.ireturn, 1))
theorem m_X9_readEnd (l : Launch) (D : va_G) (cy : Nat → ClassId) (b : Nat) {l0 : Nat} {μ : MS} {z : Int32 × MS} (hf : f_X9_readEnd l0 μ = some z) : Met l yX9_readEnd (.code yX9_readEnd cX9_readEnd 1 (some .boolean) :: GW) rmX9_readEnd (Pw D cy b [.ref (b + l0)] μ) (Qw D cy b (some (.int z.1)) (z.2)) rmX9_readEnd.cells rmX9_readEnd.slots (fun q => b ≤ q) :=
  met_of (by decide) (Nat.le_of_ble_eq_true rfl) (fun X hB _ => (t_X9_readEnd_0 hB hf ⟨rfl, rfl⟩))
-- PulseRemote$Text.readProtocol(LPulseRemote$Table;)Z
set_option maxHeartbeats 4000000 in
set_option maxRecDepth 100000 in
theorem t_X9_readProtocol_216 {X : BX} {D : va_G} {cy : Nat → ClassId} {b : Nat} {r : Option Value} {μ' : MS} (hB : BB X D cy b yX9_readProtocol cX9_readProtocol 14 (some .boolean) rmX9_readProtocol) {l0 : Nat} {l1 : Nat} {l2 : Int32} {l3 : Int32} {l4 : Int32} {l5 : Int32} {l8 : Int32} {l9 : Int32} {l10 : Int32} {l11 : Int32} {s0 : Int32} {μ : MS} {z : (Int32 × MS)} (hf : f_X9_readProtocol_216 l0 l1 l2 l3 l4 l5 l8 l9 l10 l11 s0 μ = some z) (hk : (fun z : Int32 × MS => r = some (.int z.1) ∧ μ' = z.2) z) : WW X D cy b r μ' 14 0 0 216 [(0, .ref (b + l0)), (1, .ref (b + l1)), (2, .int l2), (3, .int l3), (4, .int l4), (5, .int l5), (8, .int l8), (9, .int l9), (10, .int l10), (11, .int l11)] [.int s0] μ := by
  unfold f_X9_readProtocol_216 at hf
  refine r_istore hB (by decide +kernel : decode cX9_readProtocol 216 = .ok (.istore 12, 2)) (by decide) rfl ?_
  refine ww_lv (lv' := [(12, .int s0), (0, .ref (b + l0)), (1, .ref (b + l1)), (2, .int l2), (3, .int l3), (4, .int l4), (5, .int l5), (8, .int l8), (9, .int l9), (10, .int l10), (11, .int l11)]) rfl ?_
  refine r_iload hB 0 rfl (by decide +kernel : decode cX9_readProtocol 218 = .ok (.iload 12, 2)) ?_
  refine r_bipush hB (v := (-9)) (by decide +kernel : decode cX9_readProtocol 220 = .ok (.bipush (-9), 2)) (by decide +kernel) ?_
  refine r_icmp_eq hB (tgt := 232) (by decide +kernel : decode cX9_readProtocol 222 = .ok (.if_icmp .eq 10, 3)) (by decide) hf (fun _ hf => ?_) (fun _ hf => ?_)
  · refine r_iconst hB (v := 0) (by decide +kernel : decode cX9_readProtocol 232 = .ok (.iconst 0, 1)) (by decide +kernel) ?_
    obtain rfl := Option.some.inj hf
    obtain ⟨rfl, rfl⟩ := hk
    exact r_zret hB (Or.inl rfl) (by decide +kernel : decode cX9_readProtocol 233 = .ok (.ireturn, 1))
  · refine r_aload_n hB 1 rfl (by decide +kernel : decode cX9_readProtocol 225 = .ok (.aload_n 0, 1)) rfl ?_
    refine r_cVi hB [] [] cf9 (own := "PulseRemote$Text") rfl cmX9_readEnd imX9_readEnd (Or.inl k_833) (by decide) rfl rfl rfl (Nat.le_of_ble_eq_true rfl) (by decide +kernel : decode cX9_readProtocol 226 = .ok (.invokevirtual 66, 3)) (fun z hz => m_X9_readEnd _ _ _ _ hz) rfl hf (fun z226 hf => ?_)
    refine r_if_ne hB (tgt := 234) (by decide +kernel : decode cX9_readProtocol 229 = .ok (.ifCond .ne 5, 3)) (by decide) hf (fun _ hf => ?_) (fun _ hf => ?_)
    · refine r_iconst hB (v := 0) (by decide +kernel : decode cX9_readProtocol 232 = .ok (.iconst 0, 1)) (by decide +kernel) ?_
      obtain rfl := Option.some.inj hf
      obtain ⟨rfl, rfl⟩ := hk
      exact r_zret hB (Or.inl rfl) (by decide +kernel : decode cX9_readProtocol 233 = .ok (.ireturn, 1))
    · refine r_aload_n hB 2 rfl (by decide +kernel : decode cX9_readProtocol 234 = .ok (.aload_n 1, 1)) rfl ?_
      refine r_iload_n hB 3 rfl (by decide +kernel : decode cX9_readProtocol 235 = .ok (.iload_n 2, 1)) rfl ?_
      refine r_iload hB 9 rfl (by decide +kernel : decode cX9_readProtocol 236 = .ok (.iload 10, 2)) ?_
      refine r_iload hB 10 rfl (by decide +kernel : decode cX9_readProtocol 238 = .ok (.iload 11, 2)) ?_
      refine r_iload hB 0 rfl (by decide +kernel : decode cX9_readProtocol 240 = .ok (.iload 12, 2)) ?_
      refine r_cVi hB [.int l2, .int l10, .int l11, .int s0] [] cf8 (own := "PulseRemote$Text") rfl cmX8_newProtocol imX8_newProtocol (Or.inl k_837) (by decide) rfl rfl rfl (Nat.le_of_ble_eq_true rfl) (by decide +kernel : decode cX9_readProtocol 242 = .ok (.invokevirtual 69, 3)) (fun z hz => m_X8_newProtocol _ _ _ _ hz) rfl hf (fun z242 hf => ?_)
      refine r_istore hB (by decide +kernel : decode cX9_readProtocol 245 = .ok (.istore 13, 2)) (by decide) rfl ?_
      refine ww_lv (lv' := [(13, .int z242.1), (12, .int s0), (0, .ref (b + l0)), (1, .ref (b + l1)), (2, .int l2), (3, .int l3), (4, .int l4), (5, .int l5), (8, .int l8), (9, .int l9), (10, .int l10), (11, .int l11)]) rfl ?_
      refine r_aload_n hB 3 rfl (by decide +kernel : decode cX9_readProtocol 247 = .ok (.aload_n 1, 1)) rfl ?_
      refine r_iload hB 0 rfl (by decide +kernel : decode cX9_readProtocol 248 = .ok (.iload 13, 2)) ?_
      refine r_cVr hB [.int z242.1] [] cf8 (own := "PulseRemote$Text") rfl cmX8_protocolAt imX8_protocolAt (Or.inl k_838) (by decide) rfl rfl rfl (Nat.le_of_ble_eq_true rfl) (by decide +kernel : decode cX9_readProtocol 250 = .ok (.invokevirtual 73, 3)) (fun z hz => m_X8_protocolAt _ _ _ _ hz) rfl hf (fun z250 hf => ?_)
      refine r_iload_n hB 5 rfl (by decide +kernel : decode cX9_readProtocol 253 = .ok (.iload_n 3, 1)) rfl ?_
      refine r_iload hB 6 rfl (by decide +kernel : decode cX9_readProtocol 254 = .ok (.iload 4, 2)) ?_
      refine r_iload hB 7 rfl (by decide +kernel : decode cX9_readProtocol 256 = .ok (.iload 5, 2)) ?_
      refine r_iload hB 8 rfl (by decide +kernel : decode cX9_readProtocol 258 = .ok (.iload 8, 2)) ?_
      refine r_iload hB 9 rfl (by decide +kernel : decode cX9_readProtocol 260 = .ok (.iload 9, 2)) ?_
      refine r_cVv hB [.int l3, .int l4, .int l5, .int l8, .int l9] [] cf6 (own := "PulseRemote$Text") rfl cmX6_useLengths imX6_useLengths (Or.inl k_839) (by decide) rfl rfl rfl (Nat.le_of_ble_eq_true rfl) (by decide +kernel : decode cX9_readProtocol 262 = .ok (.invokevirtual 77, 3)) (fun z hz => m_X6_useLengths _ _ _ _ hz) rfl hf (fun z262 hf => ?_)
      refine r_iconst hB (v := 1) (by decide +kernel : decode cX9_readProtocol 265 = .ok (.iconst 1, 1)) (by decide +kernel) ?_
      obtain rfl := Option.some.inj hf
      obtain ⟨rfl, rfl⟩ := hk
      exact r_zret hB (Or.inr rfl) (by decide +kernel : decode cX9_readProtocol 266 = .ok (.ireturn, 1))
set_option maxHeartbeats 4000000 in
set_option maxRecDepth 100000 in
theorem t_X9_readProtocol_196 {X : BX} {D : va_G} {cy : Nat → ClassId} {b : Nat} {r : Option Value} {μ' : MS} (hB : BB X D cy b yX9_readProtocol cX9_readProtocol 14 (some .boolean) rmX9_readProtocol) {l0 : Nat} {l1 : Nat} {l2 : Int32} {l3 : Int32} {l4 : Int32} {l5 : Int32} {l8 : Int32} {l9 : Int32} {l10 : Int32} {s0 : Int32} {μ : MS} {z : (Int32 × MS)} (hf : f_X9_readProtocol_196 l0 l1 l2 l3 l4 l5 l8 l9 l10 s0 μ = some z) (hk : (fun z : Int32 × MS => r = some (.int z.1) ∧ μ' = z.2) z) : WW X D cy b r μ' 14 0 0 196 [(0, .ref (b + l0)), (1, .ref (b + l1)), (2, .int l2), (3, .int l3), (4, .int l4), (5, .int l5), (8, .int l8), (9, .int l9), (10, .int l10)] [.int s0] μ := by
  unfold f_X9_readProtocol_196 at hf
  refine r_istore hB (by decide +kernel : decode cX9_readProtocol 196 = .ok (.istore 11, 2)) (by decide) rfl ?_
  refine ww_lv (lv' := [(11, .int s0), (0, .ref (b + l0)), (1, .ref (b + l1)), (2, .int l2), (3, .int l3), (4, .int l4), (5, .int l5), (8, .int l8), (9, .int l9), (10, .int l10)]) rfl ?_
  refine r_iload hB 0 rfl (by decide +kernel : decode cX9_readProtocol 198 = .ok (.iload 11, 2)) ?_
  refine r_bipush hB (v := (-9)) (by decide +kernel : decode cX9_readProtocol 200 = .ok (.bipush (-9), 2)) (by decide +kernel) ?_
  refine r_icmp_ne hB (tgt := 210) (by decide +kernel : decode cX9_readProtocol 202 = .ok (.if_icmp .ne 8, 3)) (by decide) hf (fun _ hf => ?_) (fun _ hf => ?_)
  · refine r_bipush hB (v := (-9)) (by decide +kernel : decode cX9_readProtocol 205 = .ok (.bipush (-9), 2)) (by decide +kernel) ?_
    refine r_goto hB (tgt := 216) (by decide +kernel : decode cX9_readProtocol 207 = .ok (.goto 9, 3)) (by decide) ?_
    exact WW.sub [1, 2, 3, 4, 5, 6, 7, 8, 9, 0] rfl (t_X9_readProtocol_216 hB hf hk)
  · refine r_aload_n hB 1 rfl (by decide +kernel : decode cX9_readProtocol 210 = .ok (.aload_n 0, 1)) rfl ?_
    refine r_iconst hB (v := 0) (by decide +kernel : decode cX9_readProtocol 211 = .ok (.iconst 0, 1)) (by decide +kernel) ?_
    refine r_iconst hB (v := 2) (by decide +kernel : decode cX9_readProtocol 212 = .ok (.iconst 2, 1)) (by decide +kernel) ?_
    refine r_cVi hB [.int 0, .int 2] [] cf9 (own := "PulseRemote$Text") rfl cmX9_readNumber imX9_readNumber (Or.inl k_827) (by decide) rfl rfl rfl (Nat.le_of_ble_eq_true rfl) (by decide +kernel : decode cX9_readProtocol 213 = .ok (.invokevirtual 58, 3)) (fun z hz => m_X9_readNumber _ _ _ _ hz) rfl hf (fun z213 hf => ?_)
    exact WW.sub [1, 2, 3, 4, 5, 6, 7, 8, 9, 0] rfl (t_X9_readProtocol_216 hB hf hk)
set_option maxHeartbeats 4000000 in
set_option maxRecDepth 100000 in
theorem t_X9_readProtocol_142 {X : BX} {D : va_G} {cy : Nat → ClassId} {b : Nat} {r : Option Value} {μ' : MS} (hB : BB X D cy b yX9_readProtocol cX9_readProtocol 14 (some .boolean) rmX9_readProtocol) {l0 : Nat} {l1 : Nat} {l2 : Int32} {l3 : Int32} {l4 : Int32} {l5 : Int32} {l8 : Int32} {s0 : Int32} {μ : MS} {z : (Int32 × MS)} (hf : f_X9_readProtocol_142 l0 l1 l2 l3 l4 l5 l8 s0 μ = some z) (hk : (fun z : Int32 × MS => r = some (.int z.1) ∧ μ' = z.2) z) : WW X D cy b r μ' 14 0 0 142 [(0, .ref (b + l0)), (1, .ref (b + l1)), (2, .int l2), (3, .int l3), (4, .int l4), (5, .int l5), (8, .int l8)] [.int s0] μ := by
  unfold f_X9_readProtocol_142 at hf
  refine r_istore hB (by decide +kernel : decode cX9_readProtocol 142 = .ok (.istore 9, 2)) (by decide) rfl ?_
  refine ww_lv (lv' := [(9, .int s0), (0, .ref (b + l0)), (1, .ref (b + l1)), (2, .int l2), (3, .int l3), (4, .int l4), (5, .int l5), (8, .int l8)]) rfl ?_
  refine r_iload hB 0 rfl (by decide +kernel : decode cX9_readProtocol 144 = .ok (.iload 9, 2)) ?_
  refine r_bipush hB (v := (-9)) (by decide +kernel : decode cX9_readProtocol 146 = .ok (.bipush (-9), 2)) (by decide +kernel) ?_
  refine r_icmp_eq hB (tgt := 167) (by decide +kernel : decode cX9_readProtocol 148 = .ok (.if_icmp .eq 19, 3)) (by decide) hf (fun _ hf => ?_) (fun _ hf => ?_)
  · refine r_iconst hB (v := 0) (by decide +kernel : decode cX9_readProtocol 167 = .ok (.iconst 0, 1)) (by decide +kernel) ?_
    obtain rfl := Option.some.inj hf
    obtain ⟨rfl, rfl⟩ := hk
    exact r_zret hB (Or.inl rfl) (by decide +kernel : decode cX9_readProtocol 168 = .ok (.ireturn, 1))
  · refine r_iload_n hB 3 rfl (by decide +kernel : decode cX9_readProtocol 151 = .ok (.iload_n 2, 1)) rfl ?_
    refine r_iload_n hB 4 rfl (by decide +kernel : decode cX9_readProtocol 152 = .ok (.iload_n 3, 1)) rfl ?_
    refine r_iload hB 5 rfl (by decide +kernel : decode cX9_readProtocol 153 = .ok (.iload 4, 2)) ?_
    refine r_iload hB 6 rfl (by decide +kernel : decode cX9_readProtocol 155 = .ok (.iload 5, 2)) ?_
    refine r_iload hB 7 rfl (by decide +kernel : decode cX9_readProtocol 157 = .ok (.iload 8, 2)) ?_
    refine r_iload hB 0 rfl (by decide +kernel : decode cX9_readProtocol 159 = .ok (.iload 9, 2)) ?_
    refine r_cSi hB [.int l2, .int l3, .int l4, .int l5, .int l8, .int s0] [] (own := "PulseRemote$Text") rfl cmX11_lengthsPossible smX11_lengthsPossible (Or.inr ⟨_, k_832⟩) (by decide) rfl rfl rfl (Nat.le_of_ble_eq_true rfl) (by decide +kernel : decode cX9_readProtocol 161 = .ok (.invokestatic 62, 3)) (fun z hz => m_X11_lengthsPossible _ _ _ _ hz) rfl hf (fun z161 hf => ?_)
    refine r_if_ne hB (tgt := 169) (by decide +kernel : decode cX9_readProtocol 164 = .ok (.ifCond .ne 5, 3)) (by decide) hf (fun _ hf => ?_) (fun _ hf => ?_)
    · refine r_iconst hB (v := 0) (by decide +kernel : decode cX9_readProtocol 167 = .ok (.iconst 0, 1)) (by decide +kernel) ?_
      obtain rfl := Option.some.inj hf
      obtain ⟨rfl, rfl⟩ := hk
      exact r_zret hB (Or.inl rfl) (by decide +kernel : decode cX9_readProtocol 168 = .ok (.ireturn, 1))
    · refine r_aload_n hB 1 rfl (by decide +kernel : decode cX9_readProtocol 169 = .ok (.aload_n 0, 1)) rfl ?_
      refine r_iconst hB (v := 1) (by decide +kernel : decode cX9_readProtocol 170 = .ok (.iconst 1, 1)) (by decide +kernel) ?_
      refine r_bipush hB (v := 16) (by decide +kernel : decode cX9_readProtocol 171 = .ok (.bipush 16, 2)) (by decide +kernel) ?_
      refine r_cVi hB [.int 1, .int 16] [] cf9 (own := "PulseRemote$Text") rfl cmX9_readNumber imX9_readNumber (Or.inl k_827) (by decide) rfl rfl rfl (Nat.le_of_ble_eq_true rfl) (by decide +kernel : decode cX9_readProtocol 173 = .ok (.invokevirtual 58, 3)) (fun z hz => m_X9_readNumber _ _ _ _ hz) rfl hf (fun z173 hf => ?_)
      refine r_istore hB (by decide +kernel : decode cX9_readProtocol 176 = .ok (.istore 10, 2)) (by decide) rfl ?_
      refine ww_lv (lv' := [(10, .int z173.1), (9, .int s0), (0, .ref (b + l0)), (1, .ref (b + l1)), (2, .int l2), (3, .int l3), (4, .int l4), (5, .int l5), (8, .int l8)]) rfl ?_
      refine r_iload hB 0 rfl (by decide +kernel : decode cX9_readProtocol 178 = .ok (.iload 10, 2)) ?_
      refine r_bipush hB (v := (-9)) (by decide +kernel : decode cX9_readProtocol 180 = .ok (.bipush (-9), 2)) (by decide +kernel) ?_
      refine r_icmp_ne hB (tgt := 190) (by decide +kernel : decode cX9_readProtocol 182 = .ok (.if_icmp .ne 8, 3)) (by decide) hf (fun _ hf => ?_) (fun _ hf => ?_)
      · refine r_bipush hB (v := (-9)) (by decide +kernel : decode cX9_readProtocol 185 = .ok (.bipush (-9), 2)) (by decide +kernel) ?_
        refine r_goto hB (tgt := 196) (by decide +kernel : decode cX9_readProtocol 187 = .ok (.goto 9, 3)) (by decide) ?_
        exact WW.sub [2, 3, 4, 5, 6, 7, 8, 1, 0] rfl (t_X9_readProtocol_196 hB hf hk)
      · refine r_aload_n hB 2 rfl (by decide +kernel : decode cX9_readProtocol 190 = .ok (.aload_n 0, 1)) rfl ?_
        refine r_iconst hB (v := 0) (by decide +kernel : decode cX9_readProtocol 191 = .ok (.iconst 0, 1)) (by decide +kernel) ?_
        refine r_iconst hB (v := 1) (by decide +kernel : decode cX9_readProtocol 192 = .ok (.iconst 1, 1)) (by decide +kernel) ?_
        refine r_cVi hB [.int 0, .int 1] [] cf9 (own := "PulseRemote$Text") rfl cmX9_readNumber imX9_readNumber (Or.inl k_827) (by decide) rfl rfl rfl (Nat.le_of_ble_eq_true rfl) (by decide +kernel : decode cX9_readProtocol 193 = .ok (.invokevirtual 58, 3)) (fun z hz => m_X9_readNumber _ _ _ _ hz) rfl hf (fun z193 hf => ?_)
        exact WW.sub [2, 3, 4, 5, 6, 7, 8, 1, 0] rfl (t_X9_readProtocol_196 hB hf hk)
set_option maxHeartbeats 4000000 in
set_option maxRecDepth 100000 in
theorem t_X9_readProtocol_120 {X : BX} {D : va_G} {cy : Nat → ClassId} {b : Nat} {r : Option Value} {μ' : MS} (hB : BB X D cy b yX9_readProtocol cX9_readProtocol 14 (some .boolean) rmX9_readProtocol) {l0 : Nat} {l1 : Nat} {l2 : Int32} {l3 : Int32} {l4 : Int32} {l5 : Int32} {l6 : Int32} {l7 : Int32} {s0 : Int32} {μ : MS} {z : (Int32 × MS)} (hf : f_X9_readProtocol_120 l0 l1 l2 l3 l4 l5 l6 l7 s0 μ = some z) (hk : (fun z : Int32 × MS => r = some (.int z.1) ∧ μ' = z.2) z) : WW X D cy b r μ' 14 0 0 120 [(0, .ref (b + l0)), (1, .ref (b + l1)), (2, .int l2), (3, .int l3), (4, .int l4), (5, .int l5), (6, .int l6), (7, .int l7)] [.int s0] μ := by
  unfold f_X9_readProtocol_120 at hf
  refine r_istore hB (by decide +kernel : decode cX9_readProtocol 120 = .ok (.istore 8, 2)) (by decide) rfl ?_
  refine ww_lv (lv' := [(8, .int s0), (0, .ref (b + l0)), (1, .ref (b + l1)), (2, .int l2), (3, .int l3), (4, .int l4), (5, .int l5), (6, .int l6), (7, .int l7)]) rfl ?_
  refine r_iload hB 0 rfl (by decide +kernel : decode cX9_readProtocol 122 = .ok (.iload 8, 2)) ?_
  refine r_bipush hB (v := (-9)) (by decide +kernel : decode cX9_readProtocol 124 = .ok (.bipush (-9), 2)) (by decide +kernel) ?_
  refine r_icmp_ne hB (tgt := 134) (by decide +kernel : decode cX9_readProtocol 126 = .ok (.if_icmp .ne 8, 3)) (by decide) hf (fun _ hf => ?_) (fun _ hf => ?_)
  · refine r_bipush hB (v := (-9)) (by decide +kernel : decode cX9_readProtocol 129 = .ok (.bipush (-9), 2)) (by decide +kernel) ?_
    refine r_goto hB (tgt := 142) (by decide +kernel : decode cX9_readProtocol 131 = .ok (.goto 11, 3)) (by decide) ?_
    exact WW.sub [1, 2, 3, 4, 5, 6, 0] rfl (t_X9_readProtocol_142 hB hf hk)
  · refine r_aload_n hB 1 rfl (by decide +kernel : decode cX9_readProtocol 134 = .ok (.aload_n 0, 1)) rfl ?_
    refine r_iload hB 7 rfl (by decide +kernel : decode cX9_readProtocol 135 = .ok (.iload 6, 2)) ?_
    refine r_iload hB 8 rfl (by decide +kernel : decode cX9_readProtocol 137 = .ok (.iload 7, 2)) ?_
    refine r_cVi hB [.int l6, .int l7] [] cf9 (own := "PulseRemote$Text") rfl cmX9_readNumber imX9_readNumber (Or.inl k_827) (by decide) rfl rfl rfl (Nat.le_of_ble_eq_true rfl) (by decide +kernel : decode cX9_readProtocol 139 = .ok (.invokevirtual 58, 3)) (fun z hz => m_X9_readNumber _ _ _ _ hz) rfl hf (fun z139 hf => ?_)
    exact WW.sub [1, 2, 3, 4, 5, 6, 0] rfl (t_X9_readProtocol_142 hB hf hk)
set_option maxHeartbeats 4000000 in
set_option maxRecDepth 100000 in
theorem t_X9_readProtocol_98 {X : BX} {D : va_G} {cy : Nat → ClassId} {b : Nat} {r : Option Value} {μ' : MS} (hB : BB X D cy b yX9_readProtocol cX9_readProtocol 14 (some .boolean) rmX9_readProtocol) {l0 : Nat} {l1 : Nat} {l2 : Int32} {l3 : Int32} {l4 : Int32} {l5 : Int32} {l6 : Int32} {s0 : Int32} {μ : MS} {z : (Int32 × MS)} (hf : f_X9_readProtocol_98 l0 l1 l2 l3 l4 l5 l6 s0 μ = some z) (hk : (fun z : Int32 × MS => r = some (.int z.1) ∧ μ' = z.2) z) : WW X D cy b r μ' 14 0 0 98 [(0, .ref (b + l0)), (1, .ref (b + l1)), (2, .int l2), (3, .int l3), (4, .int l4), (5, .int l5), (6, .int l6)] [.int s0] μ := by
  unfold f_X9_readProtocol_98 at hf
  refine r_istore hB (by decide +kernel : decode cX9_readProtocol 98 = .ok (.istore 7, 2)) (by decide) rfl ?_
  refine ww_lv (lv' := [(7, .int s0), (0, .ref (b + l0)), (1, .ref (b + l1)), (2, .int l2), (3, .int l3), (4, .int l4), (5, .int l5), (6, .int l6)]) rfl ?_
  refine r_iload hB 6 rfl (by decide +kernel : decode cX9_readProtocol 100 = .ok (.iload 5, 2)) ?_
  refine r_bipush hB (v := (-9)) (by decide +kernel : decode cX9_readProtocol 102 = .ok (.bipush (-9), 2)) (by decide +kernel) ?_
  refine r_icmp_ne hB (tgt := 112) (by decide +kernel : decode cX9_readProtocol 104 = .ok (.if_icmp .ne 8, 3)) (by decide) hf (fun _ hf => ?_) (fun _ hf => ?_)
  · refine r_bipush hB (v := (-9)) (by decide +kernel : decode cX9_readProtocol 107 = .ok (.bipush (-9), 2)) (by decide +kernel) ?_
    refine r_goto hB (tgt := 120) (by decide +kernel : decode cX9_readProtocol 109 = .ok (.goto 11, 3)) (by decide) ?_
    exact WW.sub [1, 2, 3, 4, 5, 6, 7, 0] rfl (t_X9_readProtocol_120 hB hf hk)
  · refine r_aload_n hB 1 rfl (by decide +kernel : decode cX9_readProtocol 112 = .ok (.aload_n 0, 1)) rfl ?_
    refine r_iload hB 7 rfl (by decide +kernel : decode cX9_readProtocol 113 = .ok (.iload 6, 2)) ?_
    refine r_iload hB 0 rfl (by decide +kernel : decode cX9_readProtocol 115 = .ok (.iload 7, 2)) ?_
    refine r_cVi hB [.int l6, .int s0] [] cf9 (own := "PulseRemote$Text") rfl cmX9_readNumber imX9_readNumber (Or.inl k_827) (by decide) rfl rfl rfl (Nat.le_of_ble_eq_true rfl) (by decide +kernel : decode cX9_readProtocol 117 = .ok (.invokevirtual 58, 3)) (fun z hz => m_X9_readNumber _ _ _ _ hz) rfl hf (fun z117 hf => ?_)
    exact WW.sub [1, 2, 3, 4, 5, 6, 7, 0] rfl (t_X9_readProtocol_120 hB hf hk)
set_option maxHeartbeats 4000000 in
set_option maxRecDepth 100000 in
theorem t_X9_readProtocol_84 {X : BX} {D : va_G} {cy : Nat → ClassId} {b : Nat} {r : Option Value} {μ' : MS} (hB : BB X D cy b yX9_readProtocol cX9_readProtocol 14 (some .boolean) rmX9_readProtocol) {l0 : Nat} {l1 : Nat} {l2 : Int32} {l3 : Int32} {l4 : Int32} {l5 : Int32} {s0 : Int32} {μ : MS} {z : (Int32 × MS)} (hf : f_X9_readProtocol_84 l0 l1 l2 l3 l4 l5 s0 μ = some z) (hk : (fun z : Int32 × MS => r = some (.int z.1) ∧ μ' = z.2) z) : WW X D cy b r μ' 14 0 0 84 [(0, .ref (b + l0)), (1, .ref (b + l1)), (2, .int l2), (3, .int l3), (4, .int l4), (5, .int l5)] [.int s0] μ := by
  unfold f_X9_readProtocol_84 at hf
  refine r_istore hB (by decide +kernel : decode cX9_readProtocol 84 = .ok (.istore 6, 2)) (by decide) rfl ?_
  refine ww_lv (lv' := [(6, .int s0), (0, .ref (b + l0)), (1, .ref (b + l1)), (2, .int l2), (3, .int l3), (4, .int l4), (5, .int l5)]) rfl ?_
  refine r_iload_n hB 3 rfl (by decide +kernel : decode cX9_readProtocol 86 = .ok (.iload_n 2, 1)) rfl ?_
  refine r_iconst hB (v := 2) (by decide +kernel : decode cX9_readProtocol 87 = .ok (.iconst 2, 1)) (by decide +kernel) ?_
  refine r_icmp_ne hB (tgt := 95) (by decide +kernel : decode cX9_readProtocol 88 = .ok (.if_icmp .ne 7, 3)) (by decide) hf (fun _ hf => ?_) (fun _ hf => ?_)
  · refine r_iconst hB (v := 0) (by decide +kernel : decode cX9_readProtocol 91 = .ok (.iconst 0, 1)) (by decide +kernel) ?_
    refine r_goto hB (tgt := 98) (by decide +kernel : decode cX9_readProtocol 92 = .ok (.goto 6, 3)) (by decide) ?_
    exact WW.sub [1, 2, 3, 4, 5, 6, 0] rfl (t_X9_readProtocol_98 hB hf hk)
  · refine r_sipush hB (v := 20000) (by decide +kernel : decode cX9_readProtocol 95 = .ok (.sipush 20000, 3)) (by decide +kernel) ?_
    exact WW.sub [1, 2, 3, 4, 5, 6, 0] rfl (t_X9_readProtocol_98 hB hf hk)
set_option maxHeartbeats 4000000 in
set_option maxRecDepth 100000 in
theorem t_X9_readProtocol_71 {X : BX} {D : va_G} {cy : Nat → ClassId} {b : Nat} {r : Option Value} {μ' : MS} (hB : BB X D cy b yX9_readProtocol cX9_readProtocol 14 (some .boolean) rmX9_readProtocol) {l0 : Nat} {l1 : Nat} {l2 : Int32} {l3 : Int32} {l4 : Int32} {s0 : Int32} {μ : MS} {z : (Int32 × MS)} (hf : f_X9_readProtocol_71 l0 l1 l2 l3 l4 s0 μ = some z) (hk : (fun z : Int32 × MS => r = some (.int z.1) ∧ μ' = z.2) z) : WW X D cy b r μ' 14 0 0 71 [(0, .ref (b + l0)), (1, .ref (b + l1)), (2, .int l2), (3, .int l3), (4, .int l4)] [.int s0] μ := by
  unfold f_X9_readProtocol_71 at hf
  refine r_istore hB (by decide +kernel : decode cX9_readProtocol 71 = .ok (.istore 5, 2)) (by decide) rfl ?_
  refine ww_lv (lv' := [(5, .int s0), (0, .ref (b + l0)), (1, .ref (b + l1)), (2, .int l2), (3, .int l3), (4, .int l4)]) rfl ?_
  refine r_iload_n hB 3 rfl (by decide +kernel : decode cX9_readProtocol 73 = .ok (.iload_n 2, 1)) rfl ?_
  refine r_iconst hB (v := 2) (by decide +kernel : decode cX9_readProtocol 74 = .ok (.iconst 2, 1)) (by decide +kernel) ?_
  refine r_icmp_ne hB (tgt := 82) (by decide +kernel : decode cX9_readProtocol 75 = .ok (.if_icmp .ne 7, 3)) (by decide) hf (fun _ hf => ?_) (fun _ hf => ?_)
  · refine r_iconst hB (v := 0) (by decide +kernel : decode cX9_readProtocol 78 = .ok (.iconst 0, 1)) (by decide +kernel) ?_
    refine r_goto hB (tgt := 84) (by decide +kernel : decode cX9_readProtocol 79 = .ok (.goto 5, 3)) (by decide) ?_
    exact WW.sub [1, 2, 3, 4, 5, 0] rfl (t_X9_readProtocol_84 hB hf hk)
  · refine r_bipush hB (v := 50) (by decide +kernel : decode cX9_readProtocol 82 = .ok (.bipush 50, 2)) (by decide +kernel) ?_
    exact WW.sub [1, 2, 3, 4, 5, 0] rfl (t_X9_readProtocol_84 hB hf hk)
set_option maxHeartbeats 4000000 in
set_option maxRecDepth 100000 in
theorem t_X9_readProtocol_48 {X : BX} {D : va_G} {cy : Nat → ClassId} {b : Nat} {r : Option Value} {μ' : MS} (hB : BB X D cy b yX9_readProtocol cX9_readProtocol 14 (some .boolean) rmX9_readProtocol) {l0 : Nat} {l1 : Nat} {l2 : Int32} {l3 : Int32} {s0 : Int32} {μ : MS} {z : (Int32 × MS)} (hf : f_X9_readProtocol_48 l0 l1 l2 l3 s0 μ = some z) (hk : (fun z : Int32 × MS => r = some (.int z.1) ∧ μ' = z.2) z) : WW X D cy b r μ' 14 0 0 48 [(0, .ref (b + l0)), (1, .ref (b + l1)), (2, .int l2), (3, .int l3)] [.int s0] μ := by
  unfold f_X9_readProtocol_48 at hf
  refine r_istore hB (by decide +kernel : decode cX9_readProtocol 48 = .ok (.istore 4, 2)) (by decide) rfl ?_
  refine ww_lv (lv' := [(4, .int s0), (0, .ref (b + l0)), (1, .ref (b + l1)), (2, .int l2), (3, .int l3)]) rfl ?_
  refine r_iload hB 0 rfl (by decide +kernel : decode cX9_readProtocol 50 = .ok (.iload 4, 2)) ?_
  refine r_bipush hB (v := (-9)) (by decide +kernel : decode cX9_readProtocol 52 = .ok (.bipush (-9), 2)) (by decide +kernel) ?_
  refine r_icmp_ne hB (tgt := 62) (by decide +kernel : decode cX9_readProtocol 54 = .ok (.if_icmp .ne 8, 3)) (by decide) hf (fun _ hf => ?_) (fun _ hf => ?_)
  · refine r_bipush hB (v := (-9)) (by decide +kernel : decode cX9_readProtocol 57 = .ok (.bipush (-9), 2)) (by decide +kernel) ?_
    refine r_goto hB (tgt := 71) (by decide +kernel : decode cX9_readProtocol 59 = .ok (.goto 12, 3)) (by decide) ?_
    exact WW.sub [1, 2, 3, 4, 0] rfl (t_X9_readProtocol_71 hB hf hk)
  · refine r_aload_n hB 1 rfl (by decide +kernel : decode cX9_readProtocol 62 = .ok (.aload_n 0, 1)) rfl ?_
    refine r_bipush hB (v := 50) (by decide +kernel : decode cX9_readProtocol 63 = .ok (.bipush 50, 2)) (by decide +kernel) ?_
    refine r_sipush hB (v := 20000) (by decide +kernel : decode cX9_readProtocol 65 = .ok (.sipush 20000, 3)) (by decide +kernel) ?_
    refine r_cVi hB [.int 50, .int 20000] [] cf9 (own := "PulseRemote$Text") rfl cmX9_readNumber imX9_readNumber (Or.inl k_827) (by decide) rfl rfl rfl (Nat.le_of_ble_eq_true rfl) (by decide +kernel : decode cX9_readProtocol 68 = .ok (.invokevirtual 58, 3)) (fun z hz => m_X9_readNumber _ _ _ _ hz) rfl hf (fun z68 hf => ?_)
    exact WW.sub [1, 2, 3, 4, 0] rfl (t_X9_readProtocol_71 hB hf hk)
set_option maxHeartbeats 4000000 in
set_option maxRecDepth 100000 in
theorem t_X9_readProtocol_27 {X : BX} {D : va_G} {cy : Nat → ClassId} {b : Nat} {r : Option Value} {μ' : MS} (hB : BB X D cy b yX9_readProtocol cX9_readProtocol 14 (some .boolean) rmX9_readProtocol) {l0 : Nat} {l1 : Nat} {l2 : Int32} {s0 : Int32} {μ : MS} {z : (Int32 × MS)} (hf : f_X9_readProtocol_27 l0 l1 l2 s0 μ = some z) (hk : (fun z : Int32 × MS => r = some (.int z.1) ∧ μ' = z.2) z) : WW X D cy b r μ' 14 0 0 27 [(0, .ref (b + l0)), (1, .ref (b + l1)), (2, .int l2)] [.int s0] μ := by
  unfold f_X9_readProtocol_27 at hf
  refine r_istore_n hB (by decide +kernel : decode cX9_readProtocol 27 = .ok (.istore_n 3, 1)) rfl (by decide) rfl ?_
  refine ww_lv (lv' := [(3, .int s0), (0, .ref (b + l0)), (1, .ref (b + l1)), (2, .int l2)]) rfl ?_
  refine r_iload_n hB 0 rfl (by decide +kernel : decode cX9_readProtocol 28 = .ok (.iload_n 3, 1)) rfl ?_
  refine r_bipush hB (v := (-9)) (by decide +kernel : decode cX9_readProtocol 29 = .ok (.bipush (-9), 2)) (by decide +kernel) ?_
  refine r_icmp_ne hB (tgt := 39) (by decide +kernel : decode cX9_readProtocol 31 = .ok (.if_icmp .ne 8, 3)) (by decide) hf (fun _ hf => ?_) (fun _ hf => ?_)
  · refine r_bipush hB (v := (-9)) (by decide +kernel : decode cX9_readProtocol 34 = .ok (.bipush (-9), 2)) (by decide +kernel) ?_
    refine r_goto hB (tgt := 48) (by decide +kernel : decode cX9_readProtocol 36 = .ok (.goto 12, 3)) (by decide) ?_
    exact WW.sub [1, 2, 3, 0] rfl (t_X9_readProtocol_48 hB hf hk)
  · refine r_aload_n hB 1 rfl (by decide +kernel : decode cX9_readProtocol 39 = .ok (.aload_n 0, 1)) rfl ?_
    refine r_bipush hB (v := 50) (by decide +kernel : decode cX9_readProtocol 40 = .ok (.bipush 50, 2)) (by decide +kernel) ?_
    refine r_sipush hB (v := 20000) (by decide +kernel : decode cX9_readProtocol 42 = .ok (.sipush 20000, 3)) (by decide +kernel) ?_
    refine r_cVi hB [.int 50, .int 20000] [] cf9 (own := "PulseRemote$Text") rfl cmX9_readNumber imX9_readNumber (Or.inl k_827) (by decide) rfl rfl rfl (Nat.le_of_ble_eq_true rfl) (by decide +kernel : decode cX9_readProtocol 45 = .ok (.invokevirtual 58, 3)) (fun z hz => m_X9_readNumber _ _ _ _ hz) rfl hf (fun z45 hf => ?_)
    exact WW.sub [1, 2, 3, 0] rfl (t_X9_readProtocol_48 hB hf hk)
set_option maxHeartbeats 4000000 in
set_option maxRecDepth 100000 in
theorem t_X9_readProtocol_0 {X : BX} {D : va_G} {cy : Nat → ClassId} {b : Nat} {r : Option Value} {μ' : MS} (hB : BB X D cy b yX9_readProtocol cX9_readProtocol 14 (some .boolean) rmX9_readProtocol) {l0 : Nat} {l1 : Nat} {μ : MS} {z : (Int32 × MS)} (hf : f_X9_readProtocol l0 l1 μ = some z) (hk : (fun z : Int32 × MS => r = some (.int z.1) ∧ μ' = z.2) z) : WW X D cy b r μ' 14 0 0 0 [(0, .ref (b + l0)), (1, .ref (b + l1))] [] μ := by
  unfold f_X9_readProtocol at hf
  refine r_aload_n hB 0 rfl (by decide +kernel : decode cX9_readProtocol 0 = .ok (.aload_n 0, 1)) rfl ?_
  refine r_iconst hB (v := 0) (by decide +kernel : decode cX9_readProtocol 1 = .ok (.iconst 0, 1)) (by decide +kernel) ?_
  refine r_iconst hB (v := 2) (by decide +kernel : decode cX9_readProtocol 2 = .ok (.iconst 2, 1)) (by decide +kernel) ?_
  refine r_cVi hB [.int 0, .int 2] [] cf9 (own := "PulseRemote$Text") rfl cmX9_readNumber imX9_readNumber (Or.inl k_827) (by decide) rfl rfl rfl (Nat.le_of_ble_eq_true rfl) (by decide +kernel : decode cX9_readProtocol 3 = .ok (.invokevirtual 58, 3)) (fun z hz => m_X9_readNumber _ _ _ _ hz) rfl hf (fun z3 hf => ?_)
  refine r_istore_n hB (by decide +kernel : decode cX9_readProtocol 6 = .ok (.istore_n 2, 1)) rfl (by decide) rfl ?_
  refine ww_lv (lv' := [(2, .int z3.1), (0, .ref (b + l0)), (1, .ref (b + l1))]) rfl ?_
  refine r_iload_n hB 0 rfl (by decide +kernel : decode cX9_readProtocol 7 = .ok (.iload_n 2, 1)) rfl ?_
  refine r_bipush hB (v := (-9)) (by decide +kernel : decode cX9_readProtocol 8 = .ok (.bipush (-9), 2)) (by decide +kernel) ?_
  refine r_icmp_ne hB (tgt := 18) (by decide +kernel : decode cX9_readProtocol 10 = .ok (.if_icmp .ne 8, 3)) (by decide) hf (fun _ hf => ?_) (fun _ hf => ?_)
  · refine r_bipush hB (v := (-9)) (by decide +kernel : decode cX9_readProtocol 13 = .ok (.bipush (-9), 2)) (by decide +kernel) ?_
    refine r_goto hB (tgt := 27) (by decide +kernel : decode cX9_readProtocol 15 = .ok (.goto 12, 3)) (by decide) ?_
    exact WW.sub [1, 2, 0] rfl (t_X9_readProtocol_27 hB hf hk)
  · refine r_aload_n hB 1 rfl (by decide +kernel : decode cX9_readProtocol 18 = .ok (.aload_n 0, 1)) rfl ?_
    refine r_bipush hB (v := 50) (by decide +kernel : decode cX9_readProtocol 19 = .ok (.bipush 50, 2)) (by decide +kernel) ?_
    refine r_sipush hB (v := 20000) (by decide +kernel : decode cX9_readProtocol 21 = .ok (.sipush 20000, 3)) (by decide +kernel) ?_
    refine r_cVi hB [.int 50, .int 20000] [] cf9 (own := "PulseRemote$Text") rfl cmX9_readNumber imX9_readNumber (Or.inl k_827) (by decide) rfl rfl rfl (Nat.le_of_ble_eq_true rfl) (by decide +kernel : decode cX9_readProtocol 24 = .ok (.invokevirtual 58, 3)) (fun z hz => m_X9_readNumber _ _ _ _ hz) rfl hf (fun z24 hf => ?_)
    exact WW.sub [1, 2, 0] rfl (t_X9_readProtocol_27 hB hf hk)
theorem m_X9_readProtocol (l : Launch) (D : va_G) (cy : Nat → ClassId) (b : Nat) {l0 : Nat} {l1 : Nat} {μ : MS} {z : Int32 × MS} (hf : f_X9_readProtocol l0 l1 μ = some z) : Met l yX9_readProtocol (.code yX9_readProtocol cX9_readProtocol 14 (some .boolean) :: GW) rmX9_readProtocol (Pw D cy b [.ref (b + l0), .ref (b + l1)] μ) (Qw D cy b (some (.int z.1)) (z.2)) rmX9_readProtocol.cells rmX9_readProtocol.slots (fun q => b ≤ q) :=
  met_of (by decide) (Nat.le_of_ble_eq_true rfl) (fun X hB _ => (t_X9_readProtocol_0 hB hf ⟨rfl, rfl⟩))
-- PulseRemote$Text.readButton(LPulseRemote$Table;)Z
set_option maxHeartbeats 4000000 in
set_option maxRecDepth 100000 in
theorem t_X9_readButton_0 {X : BX} {D : va_G} {cy : Nat → ClassId} {b : Nat} {r : Option Value} {μ' : MS} (hB : BB X D cy b yX9_readButton cX9_readButton 6 (some .boolean) rmX9_readButton) {l0 : Nat} {l1 : Nat} {μ : MS} {z : (Int32 × MS)} (hf : f_X9_readButton l0 l1 μ = some z) (hk : (fun z : Int32 × MS => r = some (.int z.1) ∧ μ' = z.2) z) : WW X D cy b r μ' 6 0 0 0 [(0, .ref (b + l0)), (1, .ref (b + l1))] [] μ := by
  unfold f_X9_readButton at hf
  refine r_aload_n hB 0 rfl (by decide +kernel : decode cX9_readButton 0 = .ok (.aload_n 0, 1)) rfl ?_
  refine r_iconst hB (v := 0) (by decide +kernel : decode cX9_readButton 1 = .ok (.iconst 0, 1)) (by decide +kernel) ?_
  refine r_aload_n hB 1 rfl (by decide +kernel : decode cX9_readButton 2 = .ok (.aload_n 1, 1)) rfl ?_
  refine r_gI hB cf8 1 (by decide) (own := "PulseRemote$Text") rfl (Or.inr ⟨_, k_175⟩) (by decide +kernel) (by decide +kernel : decode cX9_readButton 3 = .ok (.getfield 83, 3)) hf (fun x3 hf => ?_)
  refine r_iconst hB (v := 1) (by decide +kernel : decode cX9_readButton 6 = .ok (.iconst 1, 1)) (by decide +kernel) ?_
  refine r_isub hB (by decide +kernel : decode cX9_readButton 7 = .ok (.isub, 1)) ?_
  refine r_cVi hB [.int 0, .int (x3 - 1)] [] cf9 (own := "PulseRemote$Text") rfl cmX9_readNumber imX9_readNumber (Or.inl k_827) (by decide) rfl rfl rfl (Nat.le_of_ble_eq_true rfl) (by decide +kernel : decode cX9_readButton 8 = .ok (.invokevirtual 58, 3)) (fun z hz => m_X9_readNumber _ _ _ _ hz) rfl hf (fun z8 hf => ?_)
  refine r_istore_n hB (by decide +kernel : decode cX9_readButton 11 = .ok (.istore_n 2, 1)) rfl (by decide) rfl ?_
  refine ww_lv (lv' := [(2, .int z8.1), (0, .ref (b + l0)), (1, .ref (b + l1))]) rfl ?_
  refine r_iload_n hB 0 rfl (by decide +kernel : decode cX9_readButton 12 = .ok (.iload_n 2, 1)) rfl ?_
  refine r_bipush hB (v := (-9)) (by decide +kernel : decode cX9_readButton 13 = .ok (.bipush (-9), 2)) (by decide +kernel) ?_
  refine r_icmp_ne hB (tgt := 20) (by decide +kernel : decode cX9_readButton 15 = .ok (.if_icmp .ne 5, 3)) (by decide) hf (fun _ hf => ?_) (fun _ hf => ?_)
  · refine r_iconst hB (v := 0) (by decide +kernel : decode cX9_readButton 18 = .ok (.iconst 0, 1)) (by decide +kernel) ?_
    obtain rfl := Option.some.inj hf
    obtain ⟨rfl, rfl⟩ := hk
    exact r_zret hB (Or.inl rfl) (by decide +kernel : decode cX9_readButton 19 = .ok (.ireturn, 1))
  · refine r_aload_n hB 2 rfl (by decide +kernel : decode cX9_readButton 20 = .ok (.aload_n 1, 1)) rfl ?_
    refine r_iload_n hB 0 rfl (by decide +kernel : decode cX9_readButton 21 = .ok (.iload_n 2, 1)) rfl ?_
    refine r_cVr hB [.int z8.1] [] cf8 (own := "PulseRemote$Text") rfl cmX8_protocolAt imX8_protocolAt (Or.inl k_838) (by decide) rfl rfl rfl (Nat.le_of_ble_eq_true rfl) (by decide +kernel : decode cX9_readButton 22 = .ok (.invokevirtual 73, 3)) (fun z hz => m_X8_protocolAt _ _ _ _ hz) rfl hf (fun z22 hf => ?_)
    refine r_astore_n hB (by decide +kernel : decode cX9_readButton 25 = .ok (.astore_n 3, 1)) rfl (by decide) rfl ?_
    refine ww_lv (lv' := [(3, .ref (b + z22.1)), (2, .int z8.1), (0, .ref (b + l0)), (1, .ref (b + l1))]) rfl ?_
    refine r_aload_n hB 2 rfl (by decide +kernel : decode cX9_readButton 26 = .ok (.aload_n 0, 1)) rfl ?_
    refine r_iconst hB (v := 0) (by decide +kernel : decode cX9_readButton 27 = .ok (.iconst 0, 1)) (by decide +kernel) ?_
    refine r_iconst hB (v := 1) (by decide +kernel : decode cX9_readButton 28 = .ok (.iconst 1, 1)) (by decide +kernel) ?_
    refine r_aload_n hB 0 rfl (by decide +kernel : decode cX9_readButton 29 = .ok (.aload_n 3, 1)) rfl ?_
    refine r_gI hB cf6 6 (by decide) (own := "PulseRemote$Text") rfl (Or.inr ⟨_, k_143⟩) (by decide +kernel) (by decide +kernel : decode cX9_readButton 30 = .ok (.getfield 86, 3)) hf (fun x30 hf => ?_)
    refine r_ishl hB (by decide +kernel : decode cX9_readButton 33 = .ok (.ishl, 1)) ?_
    refine r_iconst hB (v := 1) (by decide +kernel : decode cX9_readButton 34 = .ok (.iconst 1, 1)) (by decide +kernel) ?_
    refine r_isub hB (by decide +kernel : decode cX9_readButton 35 = .ok (.isub, 1)) ?_
    refine r_cVi hB [.int 0, .int ((1 <<< (x30 &&& 31)) - 1)] [] cf9 (own := "PulseRemote$Text") rfl cmX9_readNumber imX9_readNumber (Or.inl k_827) (by decide) rfl rfl rfl (Nat.le_of_ble_eq_true rfl) (by decide +kernel : decode cX9_readButton 36 = .ok (.invokevirtual 58, 3)) (fun z hz => m_X9_readNumber _ _ _ _ hz) rfl hf (fun z36 hf => ?_)
    refine r_istore hB (by decide +kernel : decode cX9_readButton 39 = .ok (.istore 4, 2)) (by decide) rfl ?_
    refine ww_lv (lv' := [(4, .int z36.1), (3, .ref (b + z22.1)), (2, .int z8.1), (0, .ref (b + l0)), (1, .ref (b + l1))]) rfl ?_
    refine r_iload hB 0 rfl (by decide +kernel : decode cX9_readButton 41 = .ok (.iload 4, 2)) ?_
    refine r_bipush hB (v := (-9)) (by decide +kernel : decode cX9_readButton 43 = .ok (.bipush (-9), 2)) (by decide +kernel) ?_
    refine r_icmp_ne hB (tgt := 50) (by decide +kernel : decode cX9_readButton 45 = .ok (.if_icmp .ne 5, 3)) (by decide) hf (fun _ hf => ?_) (fun _ hf => ?_)
    · refine r_iconst hB (v := 0) (by decide +kernel : decode cX9_readButton 48 = .ok (.iconst 0, 1)) (by decide +kernel) ?_
      obtain rfl := Option.some.inj hf
      obtain ⟨rfl, rfl⟩ := hk
      exact r_zret hB (Or.inl rfl) (by decide +kernel : decode cX9_readButton 49 = .ok (.ireturn, 1))
    · refine r_aload_n hB 1 rfl (by decide +kernel : decode cX9_readButton 50 = .ok (.aload_n 3, 1)) rfl ?_
      refine r_iload hB 0 rfl (by decide +kernel : decode cX9_readButton 51 = .ok (.iload 4, 2)) ?_
      refine r_cVi hB [.int z36.1] [] cf6 (own := "PulseRemote$Text") rfl cmX6_identityOf imX6_identityOf (Or.inl k_846) (by decide) rfl rfl rfl (Nat.le_of_ble_eq_true rfl) (by decide +kernel : decode cX9_readButton 53 = .ok (.invokevirtual 89, 3)) (fun z hz => m_X6_identityOf _ _ _ _ hz) rfl hf (fun z53 hf => ?_)
      refine r_istore hB (by decide +kernel : decode cX9_readButton 56 = .ok (.istore 5, 2)) (by decide) rfl ?_
      refine ww_lv (lv' := [(5, .int z53.1), (4, .int z36.1), (3, .ref (b + z22.1)), (2, .int z8.1), (0, .ref (b + l0)), (1, .ref (b + l1))]) rfl ?_
      refine r_aload_n hB 5 rfl (by decide +kernel : decode cX9_readButton 58 = .ok (.aload_n 1, 1)) rfl ?_
      refine r_iload_n hB 3 rfl (by decide +kernel : decode cX9_readButton 59 = .ok (.iload_n 2, 1)) rfl ?_
      refine r_iload hB 0 rfl (by decide +kernel : decode cX9_readButton 60 = .ok (.iload 5, 2)) ?_
      refine r_cVi hB [.int z8.1, .int z53.1] [] cf8 (own := "PulseRemote$Text") rfl cmX8_findButton imX8_findButton (Or.inl k_847) (by decide) rfl rfl rfl (Nat.le_of_ble_eq_true rfl) (by decide +kernel : decode cX9_readButton 62 = .ok (.invokevirtual 93, 3)) (fun z hz => m_X8_findButton _ _ _ _ hz) rfl hf (fun z62 hf => ?_)
      refine r_bipush hB (v := (-9)) (by decide +kernel : decode cX9_readButton 65 = .ok (.bipush (-9), 2)) (by decide +kernel) ?_
      refine r_icmp_ne hB (tgt := 77) (by decide +kernel : decode cX9_readButton 67 = .ok (.if_icmp .ne 10, 3)) (by decide) hf (fun _ hf => ?_) (fun _ hf => ?_)
      · refine r_aload_n hB 4 rfl (by decide +kernel : decode cX9_readButton 70 = .ok (.aload_n 0, 1)) rfl ?_
        refine r_cVi hB [] [] cf9 (own := "PulseRemote$Text") rfl cmX9_readEnd imX9_readEnd (Or.inl k_833) (by decide) rfl rfl rfl (Nat.le_of_ble_eq_true rfl) (by decide +kernel : decode cX9_readButton 71 = .ok (.invokevirtual 66, 3)) (fun z hz => m_X9_readEnd _ _ _ _ hz) rfl hf (fun z71 hf => ?_)
        refine r_if_ne hB (tgt := 79) (by decide +kernel : decode cX9_readButton 74 = .ok (.ifCond .ne 5, 3)) (by decide) hf (fun _ hf => ?_) (fun _ hf => ?_)
        · refine r_iconst hB (v := 0) (by decide +kernel : decode cX9_readButton 77 = .ok (.iconst 0, 1)) (by decide +kernel) ?_
          obtain rfl := Option.some.inj hf
          obtain ⟨rfl, rfl⟩ := hk
          exact r_zret hB (Or.inl rfl) (by decide +kernel : decode cX9_readButton 78 = .ok (.ireturn, 1))
        · refine r_aload_n hB 5 rfl (by decide +kernel : decode cX9_readButton 79 = .ok (.aload_n 1, 1)) rfl ?_
          refine r_iload_n hB 3 rfl (by decide +kernel : decode cX9_readButton 80 = .ok (.iload_n 2, 1)) rfl ?_
          refine r_iload hB 0 rfl (by decide +kernel : decode cX9_readButton 81 = .ok (.iload 5, 2)) ?_
          refine r_cVi hB [.int z8.1, .int z53.1] [] cf8 (own := "PulseRemote$Text") rfl cmX8_newButton imX8_newButton (Or.inl k_848) (by decide) rfl rfl rfl (Nat.le_of_ble_eq_true rfl) (by decide +kernel : decode cX9_readButton 83 = .ok (.invokevirtual 96, 3)) (fun z hz => m_X8_newButton _ _ _ _ hz) rfl hf (fun z83 hf => ?_)
          refine r_pop hB (by decide +kernel : decode cX9_readButton 86 = .ok (.pop, 1)) rfl ?_
          refine r_iconst hB (v := 1) (by decide +kernel : decode cX9_readButton 87 = .ok (.iconst 1, 1)) (by decide +kernel) ?_
          obtain rfl := Option.some.inj hf
          obtain ⟨rfl, rfl⟩ := hk
          exact r_zret hB (Or.inr rfl) (by decide +kernel : decode cX9_readButton 88 = .ok (.ireturn, 1))
      · refine r_iconst hB (v := 0) (by decide +kernel : decode cX9_readButton 77 = .ok (.iconst 0, 1)) (by decide +kernel) ?_
        obtain rfl := Option.some.inj hf
        obtain ⟨rfl, rfl⟩ := hk
        exact r_zret hB (Or.inl rfl) (by decide +kernel : decode cX9_readButton 78 = .ok (.ireturn, 1))
theorem m_X9_readButton (l : Launch) (D : va_G) (cy : Nat → ClassId) (b : Nat) {l0 : Nat} {l1 : Nat} {μ : MS} {z : Int32 × MS} (hf : f_X9_readButton l0 l1 μ = some z) : Met l yX9_readButton (.code yX9_readButton cX9_readButton 6 (some .boolean) :: GW) rmX9_readButton (Pw D cy b [.ref (b + l0), .ref (b + l1)] μ) (Qw D cy b (some (.int z.1)) (z.2)) rmX9_readButton.cells rmX9_readButton.slots (fun q => b ≤ q) :=
  met_of (by decide) (Nat.le_of_ble_eq_true rfl) (fun X hB _ => (t_X9_readButton_0 hB hf ⟨rfl, rfl⟩))
-- PulseRemote$Text.readItem(LPulseRemote$Table;)Z
set_option maxHeartbeats 4000000 in
set_option maxRecDepth 100000 in
theorem m_X9_readItem (l : Launch) (D : va_G) (cy : Nat → ClassId) (b : Nat) {l0 : Nat} {l1 : Nat} {μ : MS} {z : Int32 × MS} (hf : f_X9_readItem l0 l1 μ = some z) : Met l yX9_readItem (.code yX9_readItem cX9_readItem 2 (some .boolean) :: GW) rmX9_readItem (Pw D cy b [.ref (b + l0), .ref (b + l1)] μ) (Qw D cy b (some (.int z.1)) (z.2)) rmX9_readItem.cells rmX9_readItem.slots (fun q => b ≤ q) := by
  refine met_of (by decide) (Nat.le_of_ble_eq_true rfl) (fun X hB _ => ?_)
  show WW X D cy b (some (.int z.1)) z.2 2 0 0 0 [(0, .ref (b + l0)), (1, .ref (b + l1))] [] μ
  obtain ⟨adK, adV, h1, h2, h3⟩ := hB.2.2.2.2.2.2.2.2.1.2.2.1
  have T0 : StrX b (adK 0) (adV 0) [112, 114, 111, 116, 111] (xs X) := h1.1 0 (by decide)
  have T1 : StrX b (adK 1) (adV 1) [98, 117, 116, 116, 111, 110] (xs X) := h1.1 1 (by decide)
  unfold f_X9_readItem at hf
  refine r_aload_n hB 0 rfl (by decide +kernel : decode cX9_readItem 0 = .ok (.aload_n 0, 1)) rfl ?_
  refine r_ldcS hB rfl h2 (by decide +kernel : decode cX9_readItem 1 = .ok (.ldc 37, 2)) ?_
  obtain ⟨z3, hz3, hf⟩ := bind_inv hf
  obtain ⟨ha0, hz3⟩ := isO_some hz3
  refine callV2 (kc := 0) (ks := 0) (rm' := rmX9_isWord) (As := [.ref (adK 0)]) (rest := []) (rv := some (.int z3.1)) (μ1 := z3.2) hB T0 cf9 (own := "PulseRemote$Text") rfl cmX9_isWord imX9_isWord k_770 (by decide) rfl (Nat.le_of_ble_eq_true rfl) (by decide +kernel : decode cX9_readItem 3 = .ok (.invokevirtual 39, 3)) (m_X9_isWord _ D cy b okW_p hz3) ha0 rfl rfl ?_
  refine r_if_eq hB (tgt := 30) (by decide +kernel : decode cX9_readItem 6 = .ok (.ifCond .eq 24, 3)) (by decide) hf (fun _ hf => ?_) (fun _ hf => ?_)
  · refine r_aload_n hB 0 rfl (by decide +kernel : decode cX9_readItem 30 = .ok (.aload_n 0, 1)) rfl ?_
    refine r_ldcS hB rfl h3 (by decide +kernel : decode cX9_readItem 31 = .ok (.ldc 50, 2)) ?_
    obtain ⟨z33, hz33, hf⟩ := bind_inv hf
    obtain ⟨ha1, hz33⟩ := isO_some hz33
    refine callV2 (kc := 0) (ks := 0) (rm' := rmX9_isWord) (As := [.ref (adK 1)]) (rest := []) (rv := some (.int z33.1)) (μ1 := z33.2) hB T1 cf9 (own := "PulseRemote$Text") rfl cmX9_isWord imX9_isWord k_770 (by decide) rfl (Nat.le_of_ble_eq_true rfl) (by decide +kernel : decode cX9_readItem 33 = .ok (.invokevirtual 39, 3)) (m_X9_isWord _ D cy b okW_b hz33) ha1 rfl rfl ?_
    refine r_if_eq hB (tgt := 60) (by decide +kernel : decode cX9_readItem 36 = .ok (.ifCond .eq 24, 3)) (by decide) hf (fun _ hf => ?_) (fun _ hf => ?_)
    · obtain rfl := Option.some.inj hf
      refine r_iconst hB (v := 0) (by decide +kernel : decode cX9_readItem 60 = .ok (.iconst 0, 1)) (by decide +kernel) ?_
      exact r_zret hB (Or.inl rfl) (by decide +kernel : decode cX9_readItem 61 = .ok (.ireturn, 1))
    · have no : ∀ (μ1 : MS), some ((0 : Int32), μ1) = some z → WW X D cy b (some (.int z.1)) z.2 2 0 0 58 [(0, .ref (b + l0)), (1, .ref (b + l1))] [] μ1 := by
        intro μ1 hf
        obtain rfl := Option.some.inj hf
        refine r_iconst hB (v := 0) (by decide +kernel : decode cX9_readItem 58 = .ok (.iconst 0, 1)) (by decide +kernel) ?_
        exact r_zret hB (Or.inl rfl) (by decide +kernel : decode cX9_readItem 59 = .ok (.ireturn, 1))
      refine r_aload_n hB 1 rfl (by decide +kernel : decode cX9_readItem 39 = .ok (.aload_n 1, 1)) rfl ?_
      refine r_cVi hB [] [] cf8 (own := "PulseRemote$Text") rfl cmX8_buttonsFull imX8_buttonsFull (Or.inl k_841) (by decide) rfl rfl rfl (Nat.le_of_ble_eq_true rfl) (by decide +kernel : decode cX9_readItem 40 = .ok (.invokevirtual 52, 3)) (fun z hz => m_X8_buttonsFull _ _ _ _ hz) rfl hf (fun z40 hf => ?_)
      refine r_if_ne hB (tgt := 58) (by decide +kernel : decode cX9_readItem 43 = .ok (.ifCond .ne 15, 3)) (by decide) hf (fun _ hf => ?_) (fun _ hf => no _ hf)
      refine r_aload_n hB 0 rfl (by decide +kernel : decode cX9_readItem 46 = .ok (.aload_n 0, 1)) rfl ?_
      refine r_aload_n hB 1 rfl (by decide +kernel : decode cX9_readItem 47 = .ok (.aload_n 1, 1)) rfl ?_
      refine r_cVi hB [.ref (b + l1)] [] cf9 (own := "PulseRemote$Text") rfl cmX9_readButton imX9_readButton (Or.inl k_842) (by decide) rfl rfl rfl (Nat.le_of_ble_eq_true rfl) (by decide +kernel : decode cX9_readItem 48 = .ok (.invokevirtual 55, 3)) (fun z hz => m_X9_readButton _ _ _ _ hz) rfl hf (fun z48 hf => ?_)
      refine r_if_eq hB (tgt := 58) (by decide +kernel : decode cX9_readItem 51 = .ok (.ifCond .eq 7, 3)) (by decide) hf (fun _ hf => no _ hf) (fun _ hf => ?_)
      obtain rfl := Option.some.inj hf
      refine r_iconst hB (v := 1) (by decide +kernel : decode cX9_readItem 54 = .ok (.iconst 1, 1)) (by decide +kernel) ?_
      refine r_goto hB (tgt := 59) (by decide +kernel : decode cX9_readItem 55 = .ok (.goto 4, 3)) (by decide) ?_
      exact r_zret hB (Or.inr rfl) (by decide +kernel : decode cX9_readItem 59 = .ok (.ireturn, 1))
  · have no : ∀ (μ1 : MS), some ((0 : Int32), μ1) = some z → WW X D cy b (some (.int z.1)) z.2 2 0 0 28 [(0, .ref (b + l0)), (1, .ref (b + l1))] [] μ1 := by
      intro μ1 hf
      obtain rfl := Option.some.inj hf
      refine r_iconst hB (v := 0) (by decide +kernel : decode cX9_readItem 28 = .ok (.iconst 0, 1)) (by decide +kernel) ?_
      exact r_zret hB (Or.inl rfl) (by decide +kernel : decode cX9_readItem 29 = .ok (.ireturn, 1))
    refine r_aload_n hB 1 rfl (by decide +kernel : decode cX9_readItem 9 = .ok (.aload_n 1, 1)) rfl ?_
    refine r_cVi hB [] [] cf8 (own := "PulseRemote$Text") rfl cmX8_protocolsFull imX8_protocolsFull (Or.inl k_822) (by decide) rfl rfl rfl (Nat.le_of_ble_eq_true rfl) (by decide +kernel : decode cX9_readItem 10 = .ok (.invokevirtual 43, 3)) (fun z hz => m_X8_protocolsFull _ _ _ _ hz) rfl hf (fun z10 hf => ?_)
    refine r_if_ne hB (tgt := 28) (by decide +kernel : decode cX9_readItem 13 = .ok (.ifCond .ne 15, 3)) (by decide) hf (fun _ hf => ?_) (fun _ hf => no _ hf)
    refine r_aload_n hB 0 rfl (by decide +kernel : decode cX9_readItem 16 = .ok (.aload_n 0, 1)) rfl ?_
    refine r_aload_n hB 1 rfl (by decide +kernel : decode cX9_readItem 17 = .ok (.aload_n 1, 1)) rfl ?_
    refine r_cVi hB [.ref (b + l1)] [] cf9 (own := "PulseRemote$Text") rfl cmX9_readProtocol imX9_readProtocol (Or.inl k_823) (by decide) rfl rfl rfl (Nat.le_of_ble_eq_true rfl) (by decide +kernel : decode cX9_readItem 18 = .ok (.invokevirtual 47, 3)) (fun z hz => m_X9_readProtocol _ _ _ _ hz) rfl hf (fun z18 hf => ?_)
    refine r_if_eq hB (tgt := 28) (by decide +kernel : decode cX9_readItem 21 = .ok (.ifCond .eq 7, 3)) (by decide) hf (fun _ hf => no _ hf) (fun _ hf => ?_)
    obtain rfl := Option.some.inj hf
    refine r_iconst hB (v := 1) (by decide +kernel : decode cX9_readItem 24 = .ok (.iconst 1, 1)) (by decide +kernel) ?_
    refine r_goto hB (tgt := 29) (by decide +kernel : decode cX9_readItem 25 = .ok (.goto 4, 3)) (by decide) ?_
    exact r_zret hB (Or.inr rfl) (by decide +kernel : decode cX9_readItem 29 = .ok (.ireturn, 1))
-- PulseRemote$Text.readTable(LPulseRemote$Table;)I
set_option maxHeartbeats 4000000 in
set_option maxRecDepth 100000 in
theorem t_X9_readTable_48 {X : BX} {D : va_G} {cy : Nat → ClassId} {b : Nat} {r : Option Value} {μ' : MS} (hB : BB X D cy b yX9_readTable cX9_readTable 3 (some .int) rmX9_readTable)  {μ : MS} {z : (Int32 × MS)} (hf : f_X9_readTable_48  μ = some z) (hk : (fun z : Int32 × MS => r = some (.int z.1) ∧ μ' = z.2) z) : WW X D cy b r μ' 3 0 0 48 [] [] μ := by
  unfold f_X9_readTable_48 at hf
  refine r_bipush hB (v := (-9)) (by decide +kernel : decode cX9_readTable 48 = .ok (.bipush (-9), 2)) (by decide +kernel) ?_
  obtain rfl := Option.some.inj hf
  obtain ⟨rfl, rfl⟩ := hk
  exact r_iret hB (by decide +kernel : decode cX9_readTable 50 = .ok (.ireturn, 1))
set_option maxHeartbeats 4000000 in
set_option maxRecDepth 100000 in
theorem t_X9_readTable_29 {X : BX} {D : va_G} {cy : Nat → ClassId} {b : Nat} {r : Option Value} {μ' : MS} (hB : BB X D cy b yX9_readTable cX9_readTable 3 (some .int) rmX9_readTable) {l2 : Int32} {μ : MS} {z : (Int32 × MS)} (hf : f_X9_readTable_29 l2 μ = some z) (hk : (fun z : Int32 × MS => r = some (.int z.1) ∧ μ' = z.2) z) : WW X D cy b r μ' 3 0 0 29 [(2, .int l2)] [] μ := by
  unfold f_X9_readTable_29 at hf
  refine r_iload_n hB 0 rfl (by decide +kernel : decode cX9_readTable 29 = .ok (.iload_n 2, 1)) rfl ?_
  obtain rfl := Option.some.inj hf
  obtain ⟨rfl, rfl⟩ := hk
  exact r_iret hB (by decide +kernel : decode cX9_readTable 30 = .ok (.ireturn, 1))
set_option maxHeartbeats 4000000 in
set_option maxRecDepth 100000 in
theorem t_X9_readTable_39 {X : BX} {D : va_G} {cy : Nat → ClassId} {b : Nat} {r : Option Value} {μ' : MS} (hB : BB X D cy b yX9_readTable cX9_readTable 3 (some .int) rmX9_readTable)  {μ : MS} {z : (Int32 × MS)} (hf : f_X9_readTable_39  μ = some z) (hk : (fun z : Int32 × MS => r = some (.int z.1) ∧ μ' = z.2) z) : WW X D cy b r μ' 3 0 0 39 [] [] μ := by
  unfold f_X9_readTable_39 at hf
  refine r_bipush hB (v := (-9)) (by decide +kernel : decode cX9_readTable 39 = .ok (.bipush (-9), 2)) (by decide +kernel) ?_
  obtain rfl := Option.some.inj hf
  obtain ⟨rfl, rfl⟩ := hk
  exact r_iret hB (by decide +kernel : decode cX9_readTable 41 = .ok (.ireturn, 1))
set_option maxHeartbeats 4000000 in
set_option maxRecDepth 100000 in
theorem t_X9_readTable_11_b {X : BX} {D : va_G} {cy : Nat → ClassId} {b : Nat} {r : Option Value} {μ' : MS} (hB : BB X D cy b yX9_readTable cX9_readTable 3 (some .int) rmX9_readTable) {l0 : Nat} {l1 : Nat} {l2 : Int32} {μ : MS} {z : ((Nat × Nat × Int32 × MS) ⊕ (Int32 × MS))} (hf : f_X9_readTable_11_b l0 l1 l2 μ = some z) (hk : (Sum.elim (fun s : Nat × Nat × Int32 × MS => WW X D cy b r μ' 3 0 0 11 [(0, .ref (b + s.1)), (1, .ref (b + s.2.1)), (2, .int s.2.2.1)] [] s.2.2.2) (fun z : Int32 × MS => r = some (.int z.1) ∧ μ' = z.2)) z) : WW X D cy b r μ' 3 0 0 11 [(0, .ref (b + l0)), (1, .ref (b + l1)), (2, .int l2)] [] μ := by
  unfold f_X9_readTable_11_b at hf
  refine r_iload_n hB 2 rfl (by decide +kernel : decode cX9_readTable 11 = .ok (.iload_n 2, 1)) rfl ?_
  refine r_sipush hB (v := 160) (by decide +kernel : decode cX9_readTable 12 = .ok (.sipush 160, 3)) (by decide +kernel) ?_
  refine r_icmp_gt hB (tgt := 48) (by decide +kernel : decode cX9_readTable 15 = .ok (.if_icmp .gt 33, 3)) (by decide) hf (fun _ hf => ?_) (fun _ hf => ?_)
  · obtain ⟨_, hx0, rfl⟩ := xr_inv hf
    exact WW.sub [] rfl (t_X9_readTable_48 hB hx0 hk)
  · refine r_aload_n hB 0 rfl (by decide +kernel : decode cX9_readTable 18 = .ok (.aload_n 0, 1)) rfl ?_
    refine r_cVv hB [] [] cf9 (own := "PulseRemote$Text") rfl cmX9_takeToken imX9_takeToken (Or.inl k_753) (by decide) rfl rfl rfl (Nat.le_of_ble_eq_true rfl) (by decide +kernel : decode cX9_readTable 19 = .ok (.invokevirtual 27, 3)) (fun z hz => m_X9_takeToken _ _ _ _ hz) rfl hf (fun z19 hf => ?_)
    refine r_aload_n hB 0 rfl (by decide +kernel : decode cX9_readTable 22 = .ok (.aload_n 0, 1)) rfl ?_
    refine r_gI hB cf9 2 (by decide) (own := "PulseRemote$Text") rfl (Or.inl k_244) (by decide +kernel) (by decide +kernel : decode cX9_readTable 23 = .ok (.getfield 30, 3)) hf (fun x23 hf => ?_)
    refine r_if_ne hB (tgt := 31) (by decide +kernel : decode cX9_readTable 26 = .ok (.ifCond .ne 5, 3)) (by decide) hf (fun _ hf => ?_) (fun _ hf => ?_)
    · obtain ⟨_, hx0, rfl⟩ := xr_inv hf
      exact WW.sub [2] rfl (t_X9_readTable_29 hB hx0 hk)
    · refine r_aload_n hB 0 rfl (by decide +kernel : decode cX9_readTable 31 = .ok (.aload_n 0, 1)) rfl ?_
      refine r_aload_n hB 1 rfl (by decide +kernel : decode cX9_readTable 32 = .ok (.aload_n 1, 1)) rfl ?_
      refine r_cVi hB [.ref (b + l1)] [] cf9 (own := "PulseRemote$Text") rfl cmX9_readItem imX9_readItem (Or.inl k_765) (by decide) rfl rfl rfl (Nat.le_of_ble_eq_true rfl) (by decide +kernel : decode cX9_readTable 33 = .ok (.invokevirtual 33, 3)) (fun z hz => m_X9_readItem _ _ _ _ hz) rfl hf (fun z33 hf => ?_)
      refine r_if_ne hB (tgt := 42) (by decide +kernel : decode cX9_readTable 36 = .ok (.ifCond .ne 6, 3)) (by decide) hf (fun _ hf => ?_) (fun _ hf => ?_)
      · obtain ⟨_, hx0, rfl⟩ := xr_inv hf
        exact WW.sub [] rfl (t_X9_readTable_39 hB hx0 hk)
      · refine r_iincB hB 2 rfl (by decide +kernel : decode cX9_readTable 42 = .ok (.iinc 2 1, 3)) (w := 1) (by decide +kernel) (by decide) hf (fun v42 hf => ?_)
        refine ww_lv (lv' := [(2, .int v42), (0, .ref (b + l0)), (1, .ref (b + l1))]) rfl ?_
        refine r_goto hB (tgt := 11) (by decide +kernel : decode cX9_readTable 45 = .ok (.goto (-34), 3)) (by decide) ?_
        obtain rfl := Option.some.inj hf
        exact WW.sub [1, 2, 0] rfl hk
set_option maxHeartbeats 4000000 in
set_option maxRecDepth 100000 in
theorem t_X9_readTable_11 {X : BX} {D : va_G} {cy : Nat → ClassId} {b : Nat} {r : Option Value} {μ' : MS} (hB : BB X D cy b yX9_readTable cX9_readTable 3 (some .int) rmX9_readTable) {l0 : Nat} {l1 : Nat} {l2 : Int32} {μ : MS} {z : (Int32 × MS)} (hf : f_X9_readTable_11 l0 l1 l2 μ = some z) (hk : (fun z : Int32 × MS => r = some (.int z.1) ∧ μ' = z.2) z) : WW X D cy b r μ' 3 0 0 11 [(0, .ref (b + l0)), (1, .ref (b + l1)), (2, .int l2)] [] μ :=
  lp_ind (P := fun s : Nat × Nat × Int32 × MS => WW X D cy b r μ' 3 0 0 11 [(0, .ref (b + s.1)), (1, .ref (b + s.2.1)), (2, .int s.2.2.1)] [] s.2.2.2) (Q := (fun z : Int32 × MS => r = some (.int z.1) ∧ μ' = z.2)) (fun s z hz hk => t_X9_readTable_11_b hB hz hk) (l0, l1, l2, μ) z hf hk
set_option maxHeartbeats 4000000 in
set_option maxRecDepth 100000 in
theorem t_X9_readTable_0 {X : BX} {D : va_G} {cy : Nat → ClassId} {b : Nat} {r : Option Value} {μ' : MS} (hB : BB X D cy b yX9_readTable cX9_readTable 3 (some .int) rmX9_readTable) {l0 : Nat} {l1 : Nat} {μ : MS} {z : (Int32 × MS)} (hf : f_X9_readTable l0 l1 μ = some z) (hk : (fun z : Int32 × MS => r = some (.int z.1) ∧ μ' = z.2) z) : WW X D cy b r μ' 3 0 0 0 [(0, .ref (b + l0)), (1, .ref (b + l1))] [] μ := by
  unfold f_X9_readTable at hf
  refine r_aload_n hB 0 rfl (by decide +kernel : decode cX9_readTable 0 = .ok (.aload_n 0, 1)) rfl ?_
  refine r_iconst hB (v := 0) (by decide +kernel : decode cX9_readTable 1 = .ok (.iconst 0, 1)) (by decide +kernel) ?_
  refine r_pI hB cf9 4 (by decide) (own := "PulseRemote$Text") rfl (Or.inl k_247) (Or.inl rfl) rfl (by decide +kernel : decode cX9_readTable 2 = .ok (.putfield 19, 3)) hf (fun m2 hf => ?_)
  refine r_aload_n hB 1 rfl (by decide +kernel : decode cX9_readTable 5 = .ok (.aload_n 1, 1)) rfl ?_
  refine r_cVv hB [] [] cf8 (own := "PulseRemote$Text") rfl cmX8_makeEmpty imX8_makeEmpty (Or.inl k_749) (by decide) rfl rfl rfl (Nat.le_of_ble_eq_true rfl) (by decide +kernel : decode cX9_readTable 6 = .ok (.invokevirtual 22, 3)) (fun z hz => m_X8_makeEmpty _ _ _ _ hz) rfl hf (fun z6 hf => ?_)
  refine r_iconst hB (v := 0) (by decide +kernel : decode cX9_readTable 9 = .ok (.iconst 0, 1)) (by decide +kernel) ?_
  refine r_istore_n hB (by decide +kernel : decode cX9_readTable 10 = .ok (.istore_n 2, 1)) rfl (by decide) rfl ?_
  refine ww_lv (lv' := [(2, .int 0), (0, .ref (b + l0)), (1, .ref (b + l1))]) rfl ?_
  exact WW.sub [1, 2, 0] rfl (t_X9_readTable_11 hB hf hk)
theorem m_X9_readTable (l : Launch) (D : va_G) (cy : Nat → ClassId) (b : Nat) {l0 : Nat} {l1 : Nat} {μ : MS} {z : Int32 × MS} (hf : f_X9_readTable l0 l1 μ = some z) : Met l yX9_readTable (.code yX9_readTable cX9_readTable 3 (some .int) :: GW) rmX9_readTable (Pw D cy b [.ref (b + l0), .ref (b + l1)] μ) (Qw D cy b (some (.int z.1)) (z.2)) rmX9_readTable.cells rmX9_readTable.slots (fun q => b ≤ q) :=
  met_of (by decide) (Nat.le_of_ble_eq_true rfl) (fun X hB _ => (t_X9_readTable_0 hB hf ⟨rfl, rfl⟩))
-- PulseRemote.load()I
set_option maxHeartbeats 4000000 in
set_option maxRecDepth 100000 in
theorem t_X11_load_0 {X : BX} {D : va_G} {cy : Nat → ClassId} {b : Nat} {r : Option Value} {μ' : MS} (hB : BB X D cy b yX11_load cX11_load 2 (some .int) rmX11_load) {l0 : Nat} {μ : MS} {z : (Int32 × MS)} (hf : f_X11_load l0 μ = some z) (hk : (fun z : Int32 × MS => r = some (.int z.1) ∧ μ' = z.2) z) : WW X D cy b r μ' 2 0 0 0 [(0, .ref (b + l0))] [] μ := by
  unfold f_X11_load at hf
  refine r_aload_n hB 0 rfl (by decide +kernel : decode cX11_load 0 = .ok (.aload_n 0, 1)) rfl ?_
  refine r_gR hB cf11 3 (by decide) (own := "PulseRemote") rfl (Or.inl k_468) (by decide +kernel) (by decide +kernel : decode cX11_load 1 = .ok (.getfield 23, 3)) hf (fun x1 hf => ?_)
  refine r_aload_n hB 0 rfl (by decide +kernel : decode cX11_load 4 = .ok (.aload_n 0, 1)) rfl ?_
  refine r_gR hB cf11 4 (by decide) (own := "PulseRemote") rfl (Or.inl k_469) (by decide +kernel) (by decide +kernel : decode cX11_load 5 = .ok (.getfield 30, 3)) hf (fun x5 hf => ?_)
  refine r_cVi hB [.ref (b + x5)] [] cf9 (own := "PulseRemote") rfl cmX9_readTable imX9_readTable (Or.inl k_745) (by decide) rfl rfl rfl (Nat.le_of_ble_eq_true rfl) (by decide +kernel : decode cX11_load 8 = .ok (.invokevirtual 233, 3)) (fun z hz => m_X9_readTable _ _ _ _ hz) rfl hf (fun z8 hf => ?_)
  refine r_istore_n hB (by decide +kernel : decode cX11_load 11 = .ok (.istore_n 1, 1)) rfl (by decide) rfl ?_
  refine ww_lv (lv' := [(1, .int z8.1), (0, .ref (b + l0))]) rfl ?_
  refine r_iload_n hB 0 rfl (by decide +kernel : decode cX11_load 12 = .ok (.iload_n 1, 1)) rfl ?_
  refine r_bipush hB (v := (-9)) (by decide +kernel : decode cX11_load 13 = .ok (.bipush (-9), 2)) (by decide +kernel) ?_
  refine r_icmp_ne hB (tgt := 29) (by decide +kernel : decode cX11_load 15 = .ok (.if_icmp .ne 14, 3)) (by decide) hf (fun _ hf => ?_) (fun _ hf => ?_)
  · refine r_bipush hB (v := (-10)) (by decide +kernel : decode cX11_load 18 = .ok (.bipush (-10), 2)) (by decide +kernel) ?_
    refine r_aload_n hB 1 rfl (by decide +kernel : decode cX11_load 20 = .ok (.aload_n 0, 1)) rfl ?_
    refine r_gR hB cf11 3 (by decide) (own := "PulseRemote") rfl (Or.inl k_468) (by decide +kernel) (by decide +kernel : decode cX11_load 21 = .ok (.getfield 23, 3)) hf (fun x21 hf => ?_)
    refine r_gI hB cf9 3 (by decide) (own := "PulseRemote") rfl (Or.inr ⟨_, k_246⟩) (by decide +kernel) (by decide +kernel : decode cX11_load 24 = .ok (.getfield 237, 3)) hf (fun x24 hf => ?_)
    refine r_isub hB (by decide +kernel : decode cX11_load 27 = .ok (.isub, 1)) ?_
    obtain rfl := Option.some.inj hf
    obtain ⟨rfl, rfl⟩ := hk
    exact r_iret hB (by decide +kernel : decode cX11_load 28 = .ok (.ireturn, 1))
  · refine r_aload_n hB 1 rfl (by decide +kernel : decode cX11_load 29 = .ok (.aload_n 0, 1)) rfl ?_
    refine r_cVv hB [] [] cf11 (own := "PulseRemote") rfl cmX11_saveState imX11_saveState (Or.inl k_513) (by decide) rfl rfl rfl (Nat.le_of_ble_eq_true rfl) (by decide +kernel : decode cX11_load 30 = .ok (.invokevirtual 91, 3)) (fun z hz => m_X11_saveState _ _ _ _ hz) rfl hf (fun z30 hf => ?_)
    refine r_aload_n hB 1 rfl (by decide +kernel : decode cX11_load 33 = .ok (.aload_n 0, 1)) rfl ?_
    refine r_gR hB cf11 0 (by decide) (own := "PulseRemote") rfl (Or.inl k_465) (by decide +kernel) (by decide +kernel : decode cX11_load 34 = .ok (.getfield 12, 3)) hf (fun x34 hf => ?_)
    refine r_gR hB cf7 0 (by decide) (own := "PulseRemote") rfl (Or.inr ⟨_, k_212⟩) (by decide +kernel) (by decide +kernel : decode cX11_load 37 = .ok (.getfield 84, 3)) hf (fun x37 hf => ?_)
    refine r_aload_n hB 1 rfl (by decide +kernel : decode cX11_load 40 = .ok (.aload_n 0, 1)) rfl ?_
    refine r_gR hB cf11 4 (by decide) (own := "PulseRemote") rfl (Or.inl k_469) (by decide +kernel) (by decide +kernel : decode cX11_load 41 = .ok (.getfield 30, 3)) hf (fun x41 hf => ?_)
    refine r_cVv hB [.ref (b + x41)] [] cf8 (own := "PulseRemote") rfl cmX8_copyFrom imX8_copyFrom (Or.inl k_849) (by decide) rfl rfl rfl (Nat.le_of_ble_eq_true rfl) (by decide +kernel : decode cX11_load 44 = .ok (.invokevirtual 240, 3)) (fun z hz => m_X8_copyFrom _ _ _ _ hz) rfl hf (fun z44 hf => ?_)
    refine r_aload_n hB 1 rfl (by decide +kernel : decode cX11_load 47 = .ok (.aload_n 0, 1)) rfl ?_
    refine r_gR hB cf11 3 (by decide) (own := "PulseRemote") rfl (Or.inl k_468) (by decide +kernel) (by decide +kernel : decode cX11_load 48 = .ok (.getfield 23, 3)) hf (fun x48 hf => ?_)
    refine r_iconst hB (v := 0) (by decide +kernel : decode cX11_load 51 = .ok (.iconst 0, 1)) (by decide +kernel) ?_
    refine r_pI hB cf9 1 (by decide) (own := "PulseRemote") rfl (Or.inr ⟨_, k_243⟩) (Or.inl rfl) rfl (by decide +kernel : decode cX11_load 52 = .ok (.putfield 150, 3)) hf (fun m52 hf => ?_)
    refine r_iload_n hB 0 rfl (by decide +kernel : decode cX11_load 55 = .ok (.iload_n 1, 1)) rfl ?_
    obtain rfl := Option.some.inj hf
    obtain ⟨rfl, rfl⟩ := hk
    exact r_iret hB (by decide +kernel : decode cX11_load 56 = .ok (.ireturn, 1))
theorem m_X11_load (l : Launch) (D : va_G) (cy : Nat → ClassId) (b : Nat) {l0 : Nat} {μ : MS} {z : Int32 × MS} (hf : f_X11_load l0 μ = some z) : Met l yX11_load (.code yX11_load cX11_load 2 (some .int) :: GW) rmX11_load (Pw D cy b [.ref (b + l0)] μ) (Qw D cy b (some (.int z.1)) (z.2)) rmX11_load.cells rmX11_load.slots (fun q => b ≤ q) :=
  met_of (by decide) (Nat.le_of_ble_eq_true rfl) (fun X hB _ => (t_X11_load_0 hB hf ⟨rfl, rfl⟩))
-- PulseRemote$Train.put(I)V
set_option maxHeartbeats 4000000 in
set_option maxRecDepth 100000 in
theorem t_X10_put_0 {X : BX} {D : va_G} {cy : Nat → ClassId} {b : Nat} {r : Option Value} {μ' : MS} (hB : BB X D cy b yX10_put cX10_put 2 none rmX10_put) {l0 : Nat} {l1 : Int32} {μ : MS} {z : MS} (hf : f_X10_put l0 l1 μ = some z) (hk : (fun z : MS => r = none ∧ μ' = z) z) : WW X D cy b r μ' 2 0 0 0 [(0, .ref (b + l0)), (1, .int l1)] [] μ := by
  unfold f_X10_put at hf
  refine r_aload_n hB 0 rfl (by decide +kernel : decode cX10_put 0 = .ok (.aload_n 0, 1)) rfl ?_
  refine r_gI hB cf10 1 (by decide) (own := "PulseRemote$Train") rfl (Or.inl k_200) (by decide +kernel) (by decide +kernel : decode cX10_put 1 = .ok (.getfield 15, 3)) hf (fun x1 hf => ?_)
  refine r_if_lt hB (tgt := 37) (by decide +kernel : decode cX10_put 4 = .ok (.ifCond .lt 33, 3)) (by decide) hf (fun _ hf => ?_) (fun _ hf => ?_)
  · obtain rfl := Option.some.inj hf
    obtain ⟨rfl, rfl⟩ := hk
    exact r_vret hB (by decide +kernel : decode cX10_put 37 = .ok (.return_, 1))
  · refine r_aload_n hB 0 rfl (by decide +kernel : decode cX10_put 7 = .ok (.aload_n 0, 1)) rfl ?_
    refine r_gI hB cf10 1 (by decide) (own := "PulseRemote$Train") rfl (Or.inl k_200) (by decide +kernel) (by decide +kernel : decode cX10_put 8 = .ok (.getfield 15, 3)) hf (fun x8 hf => ?_)
    refine r_sipush hB (v := 200) (by decide +kernel : decode cX10_put 11 = .ok (.sipush 200, 3)) (by decide +kernel) ?_
    refine r_icmp_ge hB (tgt := 37) (by decide +kernel : decode cX10_put 14 = .ok (.if_icmp .ge 23, 3)) (by decide) hf (fun _ hf => ?_) (fun _ hf => ?_)
    · obtain rfl := Option.some.inj hf
      obtain ⟨rfl, rfl⟩ := hk
      exact r_vret hB (by decide +kernel : decode cX10_put 37 = .ok (.return_, 1))
    · refine r_aload_n hB 0 rfl (by decide +kernel : decode cX10_put 17 = .ok (.aload_n 0, 1)) rfl ?_
      refine r_gR hB cf10 0 (by decide) (own := "PulseRemote$Train") rfl (Or.inl k_199) (by decide +kernel) (by decide +kernel : decode cX10_put 18 = .ok (.getfield 9, 3)) hf (fun x18 hf => ?_)
      refine r_aload_n hB 0 rfl (by decide +kernel : decode cX10_put 21 = .ok (.aload_n 0, 1)) rfl ?_
      refine r_gI hB cf10 1 (by decide) (own := "PulseRemote$Train") rfl (Or.inl k_200) (by decide +kernel) (by decide +kernel : decode cX10_put 22 = .ok (.getfield 15, 3)) hf (fun x22 hf => ?_)
      refine r_iload_n hB 1 rfl (by decide +kernel : decode cX10_put 25 = .ok (.iload_n 1, 1)) rfl ?_
      refine r_iast hB (by decide +kernel : decode cX10_put 26 = .ok (.iastore, 1)) hf (fun m26 hf => ?_)
      refine r_aload_n hB 0 rfl (by decide +kernel : decode cX10_put 27 = .ok (.aload_n 0, 1)) rfl ?_
      refine r_dup hB (by decide +kernel : decode cX10_put 28 = .ok (.dup, 1)) rfl ?_
      refine r_gI hB cf10 1 (by decide) (own := "PulseRemote$Train") rfl (Or.inl k_200) (by decide +kernel) (by decide +kernel : decode cX10_put 29 = .ok (.getfield 15, 3)) hf (fun x29 hf => ?_)
      refine r_iconst hB (v := 1) (by decide +kernel : decode cX10_put 32 = .ok (.iconst 1, 1)) (by decide +kernel) ?_
      refine r_iadd hB (by decide +kernel : decode cX10_put 33 = .ok (.iadd, 1)) ?_
      refine r_pI hB cf10 1 (by decide) (own := "PulseRemote$Train") rfl (Or.inl k_200) (Or.inl rfl) rfl (by decide +kernel : decode cX10_put 34 = .ok (.putfield 15, 3)) hf (fun m34 hf => ?_)
      obtain rfl := Option.some.inj hf
      obtain ⟨rfl, rfl⟩ := hk
      exact r_vret hB (by decide +kernel : decode cX10_put 37 = .ok (.return_, 1))
theorem m_X10_put (l : Launch) (D : va_G) (cy : Nat → ClassId) (b : Nat) {l0 : Nat} {l1 : Int32} {μ : MS} {z : MS} (hf : f_X10_put l0 l1 μ = some z) : Met l yX10_put (.code yX10_put cX10_put 2 none :: GW) rmX10_put (Pw D cy b [.ref (b + l0), .int l1] μ) (Qw D cy b (none) (z)) rmX10_put.cells rmX10_put.slots (fun q => b ≤ q) :=
  met_of (by decide) (Nat.le_of_ble_eq_true rfl) (fun X hB _ => (t_X10_put_0 hB hf ⟨rfl, rfl⟩))
-- PulseRemote.append(II)I
set_option maxHeartbeats 4000000 in
set_option maxRecDepth 100000 in
theorem t_X11_append_0 {X : BX} {D : va_G} {cy : Nat → ClassId} {b : Nat} {r : Option Value} {μ' : MS} (hB : BB X D cy b yX11_append cX11_append 4 (some .int) rmX11_append) {l0 : Nat} {l1 : Int32} {l2 : Int32} {μ : MS} {z : (Int32 × MS)} (hf : f_X11_append l0 l1 l2 μ = some z) (hk : (fun z : Int32 × MS => r = some (.int z.1) ∧ μ' = z.2) z) : WW X D cy b r μ' 4 0 0 0 [(0, .ref (b + l0)), (1, .int l1), (2, .int l2)] [] μ := by
  unfold f_X11_append at hf
  refine r_iload_n hB 1 rfl (by decide +kernel : decode cX11_append 0 = .ok (.iload_n 1, 1)) rfl ?_
  refine r_cSi hB [.int l1] [] (own := "PulseRemote") rfl cmX11_isSlot smX11_isSlot (Or.inl ⟨rfl, k_589⟩) (by decide) rfl rfl rfl (Nat.le_of_ble_eq_true rfl) (by decide +kernel : decode cX11_append 1 = .ok (.invokestatic 156, 3)) (fun z hz => m_X11_isSlot _ _ _ _ hz) rfl hf (fun z1 hf => ?_)
  refine r_if_eq hB (tgt := 17) (by decide +kernel : decode cX11_append 4 = .ok (.ifCond .eq 13, 3)) (by decide) hf (fun _ hf => ?_) (fun _ hf => ?_)
  · refine r_iconst hB (v := (-1)) (by decide +kernel : decode cX11_append 17 = .ok (.iconst (-1), 1)) (by decide +kernel) ?_
    obtain rfl := Option.some.inj hf
    obtain ⟨rfl, rfl⟩ := hk
    exact r_iret hB (by decide +kernel : decode cX11_append 18 = .ok (.ireturn, 1))
  · refine r_iload_n hB 2 rfl (by decide +kernel : decode cX11_append 7 = .ok (.iload_n 2, 1)) rfl ?_
    refine r_iconst hB (v := 1) (by decide +kernel : decode cX11_append 8 = .ok (.iconst 1, 1)) (by decide +kernel) ?_
    refine r_ldc hB (v := 60000) (own := "PulseRemote") rfl k_720 (by decide +kernel : decode cX11_append 9 = .ok (.ldc 222, 2)) ?_
    refine r_cSi hB [.int l2, .int 1, .int 60000] [] (own := "PulseRemote") rfl cmX11_inRange smX11_inRange (Or.inl ⟨rfl, k_506⟩) (by decide) rfl rfl rfl (Nat.le_of_ble_eq_true rfl) (by decide +kernel : decode cX11_append 11 = .ok (.invokestatic 80, 3)) (fun z hz => m_X11_inRange _ _ _ _ hz) rfl hf (fun z11 hf => ?_)
    refine r_if_ne hB (tgt := 19) (by decide +kernel : decode cX11_append 14 = .ok (.ifCond .ne 5, 3)) (by decide) hf (fun _ hf => ?_) (fun _ hf => ?_)
    · refine r_iconst hB (v := (-1)) (by decide +kernel : decode cX11_append 17 = .ok (.iconst (-1), 1)) (by decide +kernel) ?_
      obtain rfl := Option.some.inj hf
      obtain ⟨rfl, rfl⟩ := hk
      exact r_iret hB (by decide +kernel : decode cX11_append 18 = .ok (.ireturn, 1))
    · refine r_aload_n hB 0 rfl (by decide +kernel : decode cX11_append 19 = .ok (.aload_n 0, 1)) rfl ?_
      refine r_gR hB cf11 0 (by decide) (own := "PulseRemote") rfl (Or.inl k_465) (by decide +kernel) (by decide +kernel : decode cX11_append 20 = .ok (.getfield 12, 3)) hf (fun x20 hf => ?_)
      refine r_iload_n hB 1 rfl (by decide +kernel : decode cX11_append 23 = .ok (.iload_n 1, 1)) rfl ?_
      refine r_cVr hB [.int l1] [] cf7 (own := "PulseRemote") rfl cmX7_trainAt imX7_trainAt (Or.inl k_592) (by decide) rfl rfl rfl (Nat.le_of_ble_eq_true rfl) (by decide +kernel : decode cX11_append 24 = .ok (.invokevirtual 159, 3)) (fun z hz => m_X7_trainAt _ _ _ _ hz) rfl hf (fun z24 hf => ?_)
      refine r_astore_n hB (by decide +kernel : decode cX11_append 27 = .ok (.astore_n 3, 1)) rfl (by decide) rfl ?_
      refine ww_lv (lv' := [(3, .ref (b + z24.1)), (0, .ref (b + l0)), (1, .int l1), (2, .int l2)]) rfl ?_
      refine r_aload_n hB 0 rfl (by decide +kernel : decode cX11_append 28 = .ok (.aload_n 3, 1)) rfl ?_
      refine r_gI hB cf10 1 (by decide) (own := "PulseRemote") rfl (Or.inr ⟨_, k_204⟩) (by decide +kernel) (by decide +kernel : decode cX11_append 29 = .ok (.getfield 244, 3)) hf (fun x29 hf => ?_)
      refine r_sipush hB (v := 200) (by decide +kernel : decode cX11_append 32 = .ok (.sipush 200, 3)) (by decide +kernel) ?_
      refine r_icmp_lt hB (tgt := 41) (by decide +kernel : decode cX11_append 35 = .ok (.if_icmp .lt 6, 3)) (by decide) hf (fun _ hf => ?_) (fun _ hf => ?_)
      · refine r_aload_n hB 1 rfl (by decide +kernel : decode cX11_append 41 = .ok (.aload_n 0, 1)) rfl ?_
        refine r_cVv hB [] [] cf11 (own := "PulseRemote") rfl cmX11_saveState imX11_saveState (Or.inl k_513) (by decide) rfl rfl rfl (Nat.le_of_ble_eq_true rfl) (by decide +kernel : decode cX11_append 42 = .ok (.invokevirtual 91, 3)) (fun z hz => m_X11_saveState _ _ _ _ hz) rfl hf (fun z42 hf => ?_)
        refine r_aload_n hB 0 rfl (by decide +kernel : decode cX11_append 45 = .ok (.aload_n 3, 1)) rfl ?_
        refine r_iload_n hB 3 rfl (by decide +kernel : decode cX11_append 46 = .ok (.iload_n 2, 1)) rfl ?_
        refine r_cVv hB [.int l2] [] cf10 (own := "PulseRemote") rfl cmX10_put imX10_put (Or.inl k_855) (by decide) rfl rfl rfl (Nat.le_of_ble_eq_true rfl) (by decide +kernel : decode cX11_append 47 = .ok (.invokevirtual 245, 3)) (fun z hz => m_X10_put _ _ _ _ hz) rfl hf (fun z47 hf => ?_)
        refine r_aload_n hB 0 rfl (by decide +kernel : decode cX11_append 50 = .ok (.aload_n 3, 1)) rfl ?_
        refine r_gI hB cf10 1 (by decide) (own := "PulseRemote") rfl (Or.inr ⟨_, k_204⟩) (by decide +kernel) (by decide +kernel : decode cX11_append 51 = .ok (.getfield 244, 3)) hf (fun x51 hf => ?_)
        obtain rfl := Option.some.inj hf
        obtain ⟨rfl, rfl⟩ := hk
        exact r_iret hB (by decide +kernel : decode cX11_append 54 = .ok (.ireturn, 1))
      · refine r_bipush hB (v := (-3)) (by decide +kernel : decode cX11_append 38 = .ok (.bipush (-3), 2)) (by decide +kernel) ?_
        obtain rfl := Option.some.inj hf
        obtain ⟨rfl, rfl⟩ := hk
        exact r_iret hB (by decide +kernel : decode cX11_append 40 = .ok (.ireturn, 1))
theorem m_X11_append (l : Launch) (D : va_G) (cy : Nat → ClassId) (b : Nat) {l0 : Nat} {l1 : Int32} {l2 : Int32} {μ : MS} {z : Int32 × MS} (hf : f_X11_append l0 l1 l2 μ = some z) : Met l yX11_append (.code yX11_append cX11_append 4 (some .int) :: GW) rmX11_append (Pw D cy b [.ref (b + l0), .int l1, .int l2] μ) (Qw D cy b (some (.int z.1)) (z.2)) rmX11_append.cells rmX11_append.slots (fun q => b ≤ q) :=
  met_of (by decide) (Nat.le_of_ble_eq_true rfl) (fun X hB _ => (t_X11_append_0 hB hf ⟨rfl, rfl⟩))
-- PulseRemote$Train.join(ZI)V
set_option maxHeartbeats 4000000 in
set_option maxRecDepth 100000 in
theorem t_X10_join_43 {X : BX} {D : va_G} {cy : Nat → ClassId} {b : Nat} {r : Option Value} {μ' : MS} (hB : BB X D cy b yX10_join cX10_join 3 none rmX10_join) {l0 : Nat} {l2 : Int32} {μ : MS} {z : MS} (hf : f_X10_join_43 l0 l2 μ = some z) (hk : (fun z : MS => r = none ∧ μ' = z) z) : WW X D cy b r μ' 3 0 0 43 [(0, .ref (b + l0)), (2, .int l2)] [] μ := by
  unfold f_X10_join_43 at hf
  refine r_aload_n hB 0 rfl (by decide +kernel : decode cX10_join 43 = .ok (.aload_n 0, 1)) rfl ?_
  refine r_iload_n hB 1 rfl (by decide +kernel : decode cX10_join 44 = .ok (.iload_n 2, 1)) rfl ?_
  refine r_cVv hB [.int l2] [] cf10 (own := "PulseRemote$Train") rfl cmX10_put imX10_put (Or.inl k_877) (by decide) rfl rfl rfl (Nat.le_of_ble_eq_true rfl) (by decide +kernel : decode cX10_join 45 = .ok (.invokevirtual 23, 3)) (fun z hz => m_X10_put _ _ _ _ hz) rfl hf (fun z45 hf => ?_)
  obtain rfl := Option.some.inj hf
  obtain ⟨rfl, rfl⟩ := hk
  exact r_vret hB (by decide +kernel : decode cX10_join 48 = .ok (.return_, 1))
set_option maxHeartbeats 4000000 in
set_option maxRecDepth 100000 in
theorem t_X10_join_0 {X : BX} {D : va_G} {cy : Nat → ClassId} {b : Nat} {r : Option Value} {μ' : MS} (hB : BB X D cy b yX10_join cX10_join 3 none rmX10_join) {l0 : Nat} {l1 : Int32} {l2 : Int32} {μ : MS} {z : MS} (hf : f_X10_join l0 l1 l2 μ = some z) (hk : (fun z : MS => r = none ∧ μ' = z) z) : WW X D cy b r μ' 3 0 0 0 [(0, .ref (b + l0)), (1, .int l1), (2, .int l2)] [] μ := by
  unfold f_X10_join at hf
  refine r_aload_n hB 0 rfl (by decide +kernel : decode cX10_join 0 = .ok (.aload_n 0, 1)) rfl ?_
  refine r_gI hB cf10 1 (by decide) (own := "PulseRemote$Train") rfl (Or.inl k_200) (by decide +kernel) (by decide +kernel : decode cX10_join 1 = .ok (.getfield 15, 3)) hf (fun x1 hf => ?_)
  refine r_if_le hB (tgt := 43) (by decide +kernel : decode cX10_join 4 = .ok (.ifCond .le 39, 3)) (by decide) hf (fun _ hf => ?_) (fun _ hf => ?_)
  · exact WW.sub [0, 2] rfl (t_X10_join_43 hB hf hk)
  · refine r_aload_n hB 0 rfl (by decide +kernel : decode cX10_join 7 = .ok (.aload_n 0, 1)) rfl ?_
    refine r_gI hB cf10 1 (by decide) (own := "PulseRemote$Train") rfl (Or.inl k_200) (by decide +kernel) (by decide +kernel : decode cX10_join 8 = .ok (.getfield 15, 3)) hf (fun x8 hf => ?_)
    refine r_sipush hB (v := 200) (by decide +kernel : decode cX10_join 11 = .ok (.sipush 200, 3)) (by decide +kernel) ?_
    refine r_icmp_gt hB (tgt := 43) (by decide +kernel : decode cX10_join 14 = .ok (.if_icmp .gt 29, 3)) (by decide) hf (fun _ hf => ?_) (fun _ hf => ?_)
    · exact WW.sub [0, 2] rfl (t_X10_join_43 hB hf hk)
    · refine r_aload_n hB 0 rfl (by decide +kernel : decode cX10_join 17 = .ok (.aload_n 0, 1)) rfl ?_
      refine r_cVi hB [] [] cf10 (own := "PulseRemote$Train") rfl cmX10_endsWithMark imX10_endsWithMark (Or.inl k_876) (by decide) rfl rfl rfl (Nat.le_of_ble_eq_true rfl) (by decide +kernel : decode cX10_join 18 = .ok (.invokevirtual 19, 3)) (fun z hz => m_X10_endsWithMark _ _ _ _ hz) rfl hf (fun z18 hf => ?_)
      refine r_iload_n hB 1 rfl (by decide +kernel : decode cX10_join 21 = .ok (.iload_n 1, 1)) rfl ?_
      refine r_icmp_ne hB (tgt := 43) (by decide +kernel : decode cX10_join 22 = .ok (.if_icmp .ne 21, 3)) (by decide) hf (fun _ hf => ?_) (fun _ hf => ?_)
      · refine r_aload_n hB 0 rfl (by decide +kernel : decode cX10_join 25 = .ok (.aload_n 0, 1)) rfl ?_
        refine r_gR hB cf10 0 (by decide) (own := "PulseRemote$Train") rfl (Or.inl k_199) (by decide +kernel) (by decide +kernel : decode cX10_join 26 = .ok (.getfield 9, 3)) hf (fun x26 hf => ?_)
        refine r_aload_n hB 0 rfl (by decide +kernel : decode cX10_join 29 = .ok (.aload_n 0, 1)) rfl ?_
        refine r_gI hB cf10 1 (by decide) (own := "PulseRemote$Train") rfl (Or.inl k_200) (by decide +kernel) (by decide +kernel : decode cX10_join 30 = .ok (.getfield 15, 3)) hf (fun x30 hf => ?_)
        refine r_iconst hB (v := 1) (by decide +kernel : decode cX10_join 33 = .ok (.iconst 1, 1)) (by decide +kernel) ?_
        refine r_isub hB (by decide +kernel : decode cX10_join 34 = .ok (.isub, 1)) ?_
        refine r_dup2 hB (by decide +kernel : decode cX10_join 35 = .ok (.dup2, 1)) rfl rfl ?_
        refine r_iald hB (by decide +kernel : decode cX10_join 36 = .ok (.iaload, 1)) hf (fun x36 hf => ?_)
        refine r_iload_n hB 2 rfl (by decide +kernel : decode cX10_join 37 = .ok (.iload_n 2, 1)) rfl ?_
        refine r_iadd hB (by decide +kernel : decode cX10_join 38 = .ok (.iadd, 1)) ?_
        refine r_iast hB (by decide +kernel : decode cX10_join 39 = .ok (.iastore, 1)) hf (fun m39 hf => ?_)
        refine r_goto hB (tgt := 48) (by decide +kernel : decode cX10_join 40 = .ok (.goto 8, 3)) (by decide) ?_
        obtain rfl := Option.some.inj hf
        obtain ⟨rfl, rfl⟩ := hk
        exact r_vret hB (by decide +kernel : decode cX10_join 48 = .ok (.return_, 1))
      · exact WW.sub [0, 2] rfl (t_X10_join_43 hB hf hk)
theorem m_X10_join (l : Launch) (D : va_G) (cy : Nat → ClassId) (b : Nat) {l0 : Nat} {l1 : Int32} {l2 : Int32} {μ : MS} {z : MS} (hf : f_X10_join l0 l1 l2 μ = some z) : Met l yX10_join (.code yX10_join cX10_join 3 none :: GW) rmX10_join (Pw D cy b [.ref (b + l0), .int l1, .int l2] μ) (Qw D cy b (none) (z)) rmX10_join.cells rmX10_join.slots (fun q => b ≤ q) :=
  met_of (by decide) (Nat.le_of_ble_eq_true rfl) (fun X hB _ => (t_X10_join_0 hB hf ⟨rfl, rfl⟩))
-- PulseRemote$Protocol.writeBit(ZILPulseRemote$Train;)V
set_option maxHeartbeats 4000000 in
set_option maxRecDepth 100000 in
theorem t_X6_writeBit_27 {X : BX} {D : va_G} {cy : Nat → ClassId} {b : Nat} {r : Option Value} {μ' : MS} (hB : BB X D cy b yX6_writeBit cX6_writeBit 4 none rmX6_writeBit) {l0 : Nat} {s0 : Int32} {s1 : Nat} {μ : MS} {z : MS} (hf : f_X6_writeBit_27 l0 s0 s1 μ = some z) (hk : (fun z : MS => r = none ∧ μ' = z) z) : WW X D cy b r μ' 4 0 0 27 [(0, .ref (b + l0))] [.int s0, .ref (b + s1)] μ := by
  unfold f_X6_writeBit_27 at hf
  refine r_aload_n hB 0 rfl (by decide +kernel : decode cX6_writeBit 27 = .ok (.aload_n 0, 1)) rfl ?_
  refine r_gI hB cf6 3 (by decide) (own := "PulseRemote$Protocol") rfl (Or.inl k_132) (by decide +kernel) (by decide +kernel : decode cX6_writeBit 28 = .ok (.getfield 30, 3)) hf (fun x28 hf => ?_)
  refine r_cVv hB [.int s0, .int x28] [] cf10 (own := "PulseRemote$Protocol") rfl cmX10_join imX10_join (Or.inl k_872) (by decide) rfl rfl rfl (Nat.le_of_ble_eq_true rfl) (by decide +kernel : decode cX6_writeBit 31 = .ok (.invokevirtual 68, 3)) (fun z hz => m_X10_join _ _ _ _ hz) rfl hf (fun z31 hf => ?_)
  refine r_goto hB (tgt := 106) (by decide +kernel : decode cX6_writeBit 34 = .ok (.goto 72, 3)) (by decide) ?_
  obtain rfl := Option.some.inj hf
  obtain ⟨rfl, rfl⟩ := hk
  exact r_vret hB (by decide +kernel : decode cX6_writeBit 106 = .ok (.return_, 1))
set_option maxHeartbeats 4000000 in
set_option maxRecDepth 100000 in
theorem t_X6_writeBit_73 {X : BX} {D : va_G} {cy : Nat → ClassId} {b : Nat} {r : Option Value} {μ' : MS} (hB : BB X D cy b yX6_writeBit cX6_writeBit 4 none rmX6_writeBit) {s0 : Int32} {s1 : Nat} {μ : MS} {z : MS} (hf : f_X6_writeBit_73 s0 s1 μ = some z) (hk : (fun z : MS => r = none ∧ μ' = z) z) : WW X D cy b r μ' 4 0 0 73 [] [.int s0, .ref (b + s1)] μ := by
  unfold f_X6_writeBit_73 at hf
  refine r_cVv hB [.int s0] [] cf10 (own := "PulseRemote$Protocol") rfl cmX10_put imX10_put (Or.inl k_867) (by decide) rfl rfl rfl (Nat.le_of_ble_eq_true rfl) (by decide +kernel : decode cX6_writeBit 73 = .ok (.invokevirtual 56, 3)) (fun z hz => m_X10_put _ _ _ _ hz) rfl hf (fun z73 hf => ?_)
  refine r_goto hB (tgt := 106) (by decide +kernel : decode cX6_writeBit 76 = .ok (.goto 30, 3)) (by decide) ?_
  obtain rfl := Option.some.inj hf
  obtain ⟨rfl, rfl⟩ := hk
  exact r_vret hB (by decide +kernel : decode cX6_writeBit 106 = .ok (.return_, 1))
set_option maxHeartbeats 4000000 in
set_option maxRecDepth 100000 in
theorem t_X6_writeBit_57 {X : BX} {D : va_G} {cy : Nat → ClassId} {b : Nat} {r : Option Value} {μ' : MS} (hB : BB X D cy b yX6_writeBit cX6_writeBit 4 none rmX6_writeBit) {l0 : Nat} {l1 : Int32} {l3 : Nat} {μ : MS} {z : MS} (hf : f_X6_writeBit_57 l0 l1 l3 μ = some z) (hk : (fun z : MS => r = none ∧ μ' = z) z) : WW X D cy b r μ' 4 0 0 57 [(0, .ref (b + l0)), (1, .int l1), (3, .ref (b + l3))] [] μ := by
  unfold f_X6_writeBit_57 at hf
  refine r_aload_n hB 2 rfl (by decide +kernel : decode cX6_writeBit 57 = .ok (.aload_n 3, 1)) rfl ?_
  refine r_iload_n hB 1 rfl (by decide +kernel : decode cX6_writeBit 58 = .ok (.iload_n 1, 1)) rfl ?_
  refine r_if_eq hB (tgt := 69) (by decide +kernel : decode cX6_writeBit 59 = .ok (.ifCond .eq 10, 3)) (by decide) hf (fun _ hf => ?_) (fun _ hf => ?_)
  · refine r_aload_n hB 0 rfl (by decide +kernel : decode cX6_writeBit 69 = .ok (.aload_n 0, 1)) rfl ?_
    refine r_gI hB cf6 4 (by decide) (own := "PulseRemote$Protocol") rfl (Or.inl k_135) (by decide +kernel) (by decide +kernel : decode cX6_writeBit 70 = .ok (.getfield 33, 3)) hf (fun x70 hf => ?_)
    exact WW.sub [] rfl (t_X6_writeBit_73 hB hf hk)
  · refine r_aload_n hB 0 rfl (by decide +kernel : decode cX6_writeBit 62 = .ok (.aload_n 0, 1)) rfl ?_
    refine r_gI hB cf6 5 (by decide) (own := "PulseRemote$Protocol") rfl (Or.inl k_138) (by decide +kernel) (by decide +kernel : decode cX6_writeBit 63 = .ok (.getfield 36, 3)) hf (fun x63 hf => ?_)
    refine r_goto hB (tgt := 73) (by decide +kernel : decode cX6_writeBit 66 = .ok (.goto 7, 3)) (by decide) ?_
    exact WW.sub [] rfl (t_X6_writeBit_73 hB hf hk)
set_option maxHeartbeats 4000000 in
set_option maxRecDepth 100000 in
theorem t_X6_writeBit_103 {X : BX} {D : va_G} {cy : Nat → ClassId} {b : Nat} {r : Option Value} {μ' : MS} (hB : BB X D cy b yX6_writeBit cX6_writeBit 4 none rmX6_writeBit) {s0 : Int32} {s1 : Nat} {μ : MS} {z : MS} (hf : f_X6_writeBit_103 s0 s1 μ = some z) (hk : (fun z : MS => r = none ∧ μ' = z) z) : WW X D cy b r μ' 4 0 0 103 [] [.int s0, .ref (b + s1)] μ := by
  unfold f_X6_writeBit_103 at hf
  refine r_cVv hB [.int s0] [] cf10 (own := "PulseRemote$Protocol") rfl cmX10_put imX10_put (Or.inl k_867) (by decide) rfl rfl rfl (Nat.le_of_ble_eq_true rfl) (by decide +kernel : decode cX6_writeBit 103 = .ok (.invokevirtual 56, 3)) (fun z hz => m_X10_put _ _ _ _ hz) rfl hf (fun z103 hf => ?_)
  obtain rfl := Option.some.inj hf
  obtain ⟨rfl, rfl⟩ := hk
  exact r_vret hB (by decide +kernel : decode cX6_writeBit 106 = .ok (.return_, 1))
set_option maxHeartbeats 4000000 in
set_option maxRecDepth 100000 in
theorem t_X6_writeBit_0 {X : BX} {D : va_G} {cy : Nat → ClassId} {b : Nat} {r : Option Value} {μ' : MS} (hB : BB X D cy b yX6_writeBit cX6_writeBit 4 none rmX6_writeBit) {l0 : Nat} {l1 : Int32} {l2 : Int32} {l3 : Nat} {μ : MS} {z : MS} (hf : f_X6_writeBit l0 l1 l2 l3 μ = some z) (hk : (fun z : MS => r = none ∧ μ' = z) z) : WW X D cy b r μ' 4 0 0 0 [(0, .ref (b + l0)), (1, .int l1), (2, .int l2), (3, .ref (b + l3))] [] μ := by
  unfold f_X6_writeBit at hf
  refine r_aload_n hB 0 rfl (by decide +kernel : decode cX6_writeBit 0 = .ok (.aload_n 0, 1)) rfl ?_
  refine r_gI hB cf6 0 (by decide) (own := "PulseRemote$Protocol") rfl (Or.inl k_123) (by decide +kernel) (by decide +kernel : decode cX6_writeBit 1 = .ok (.getfield 9, 3)) hf (fun x1 hf => ?_)
  refine r_iconst hB (v := 2) (by decide +kernel : decode cX6_writeBit 4 = .ok (.iconst 2, 1)) (by decide +kernel) ?_
  refine r_icmp_ne hB (tgt := 37) (by decide +kernel : decode cX6_writeBit 5 = .ok (.if_icmp .ne 32, 3)) (by decide) hf (fun _ hf => ?_) (fun _ hf => ?_)
  · refine r_aload_n hB 3 rfl (by decide +kernel : decode cX6_writeBit 8 = .ok (.aload_n 3, 1)) rfl ?_
    refine r_iload_n hB 1 rfl (by decide +kernel : decode cX6_writeBit 9 = .ok (.iload_n 1, 1)) rfl ?_
    refine r_aload_n hB 0 rfl (by decide +kernel : decode cX6_writeBit 10 = .ok (.aload_n 0, 1)) rfl ?_
    refine r_gI hB cf6 3 (by decide) (own := "PulseRemote$Protocol") rfl (Or.inl k_132) (by decide +kernel) (by decide +kernel : decode cX6_writeBit 11 = .ok (.getfield 30, 3)) hf (fun x11 hf => ?_)
    refine r_cVv hB [.int l1, .int x11] [] cf10 (own := "PulseRemote$Protocol") rfl cmX10_join imX10_join (Or.inl k_872) (by decide) rfl rfl rfl (Nat.le_of_ble_eq_true rfl) (by decide +kernel : decode cX6_writeBit 14 = .ok (.invokevirtual 68, 3)) (fun z hz => m_X10_join _ _ _ _ hz) rfl hf (fun z14 hf => ?_)
    refine r_aload_n hB 3 rfl (by decide +kernel : decode cX6_writeBit 17 = .ok (.aload_n 3, 1)) rfl ?_
    refine r_iload_n hB 1 rfl (by decide +kernel : decode cX6_writeBit 18 = .ok (.iload_n 1, 1)) rfl ?_
    refine r_if_ne hB (tgt := 26) (by decide +kernel : decode cX6_writeBit 19 = .ok (.ifCond .ne 7, 3)) (by decide) hf (fun _ hf => ?_) (fun _ hf => ?_)
    · refine r_iconst hB (v := 1) (by decide +kernel : decode cX6_writeBit 22 = .ok (.iconst 1, 1)) (by decide +kernel) ?_
      refine r_goto hB (tgt := 27) (by decide +kernel : decode cX6_writeBit 23 = .ok (.goto 4, 3)) (by decide) ?_
      exact WW.sub [0] rfl (t_X6_writeBit_27 hB hf hk)
    · refine r_iconst hB (v := 0) (by decide +kernel : decode cX6_writeBit 26 = .ok (.iconst 0, 1)) (by decide +kernel) ?_
      exact WW.sub [0] rfl (t_X6_writeBit_27 hB hf hk)
  · refine r_aload_n hB 0 rfl (by decide +kernel : decode cX6_writeBit 37 = .ok (.aload_n 0, 1)) rfl ?_
    refine r_gI hB cf6 0 (by decide) (own := "PulseRemote$Protocol") rfl (Or.inl k_123) (by decide +kernel) (by decide +kernel : decode cX6_writeBit 38 = .ok (.getfield 9, 3)) hf (fun x38 hf => ?_)
    refine r_iconst hB (v := 1) (by decide +kernel : decode cX6_writeBit 41 = .ok (.iconst 1, 1)) (by decide +kernel) ?_
    refine r_icmp_ne hB (tgt := 79) (by decide +kernel : decode cX6_writeBit 42 = .ok (.if_icmp .ne 37, 3)) (by decide) hf (fun _ hf => ?_) (fun _ hf => ?_)
    · refine r_iload_n hB 2 rfl (by decide +kernel : decode cX6_writeBit 45 = .ok (.iload_n 2, 1)) rfl ?_
      refine r_if_le hB (tgt := 57) (by decide +kernel : decode cX6_writeBit 46 = .ok (.ifCond .le 11, 3)) (by decide) hf (fun _ hf => ?_) (fun _ hf => ?_)
      · exact WW.sub [0, 1, 3] rfl (t_X6_writeBit_57 hB hf hk)
      · refine r_aload_n hB 3 rfl (by decide +kernel : decode cX6_writeBit 49 = .ok (.aload_n 3, 1)) rfl ?_
        refine r_aload_n hB 0 rfl (by decide +kernel : decode cX6_writeBit 50 = .ok (.aload_n 0, 1)) rfl ?_
        refine r_gI hB cf6 3 (by decide) (own := "PulseRemote$Protocol") rfl (Or.inl k_132) (by decide +kernel) (by decide +kernel : decode cX6_writeBit 51 = .ok (.getfield 30, 3)) hf (fun x51 hf => ?_)
        refine r_cVv hB [.int x51] [] cf10 (own := "PulseRemote$Protocol") rfl cmX10_put imX10_put (Or.inl k_867) (by decide) rfl rfl rfl (Nat.le_of_ble_eq_true rfl) (by decide +kernel : decode cX6_writeBit 54 = .ok (.invokevirtual 56, 3)) (fun z hz => m_X10_put _ _ _ _ hz) rfl hf (fun z54 hf => ?_)
        exact WW.sub [0, 1, 3] rfl (t_X6_writeBit_57 hB hf hk)
    · refine r_aload_n hB 3 rfl (by decide +kernel : decode cX6_writeBit 79 = .ok (.aload_n 3, 1)) rfl ?_
      refine r_aload_n hB 0 rfl (by decide +kernel : decode cX6_writeBit 80 = .ok (.aload_n 0, 1)) rfl ?_
      refine r_gI hB cf6 3 (by decide) (own := "PulseRemote$Protocol") rfl (Or.inl k_132) (by decide +kernel) (by decide +kernel : decode cX6_writeBit 81 = .ok (.getfield 30, 3)) hf (fun x81 hf => ?_)
      refine r_cVv hB [.int x81] [] cf10 (own := "PulseRemote$Protocol") rfl cmX10_put imX10_put (Or.inl k_867) (by decide) rfl rfl rfl (Nat.le_of_ble_eq_true rfl) (by decide +kernel : decode cX6_writeBit 84 = .ok (.invokevirtual 56, 3)) (fun z hz => m_X10_put _ _ _ _ hz) rfl hf (fun z84 hf => ?_)
      refine r_aload_n hB 3 rfl (by decide +kernel : decode cX6_writeBit 87 = .ok (.aload_n 3, 1)) rfl ?_
      refine r_iload_n hB 1 rfl (by decide +kernel : decode cX6_writeBit 88 = .ok (.iload_n 1, 1)) rfl ?_
      refine r_if_eq hB (tgt := 99) (by decide +kernel : decode cX6_writeBit 89 = .ok (.ifCond .eq 10, 3)) (by decide) hf (fun _ hf => ?_) (fun _ hf => ?_)
      · refine r_aload_n hB 0 rfl (by decide +kernel : decode cX6_writeBit 99 = .ok (.aload_n 0, 1)) rfl ?_
        refine r_gI hB cf6 4 (by decide) (own := "PulseRemote$Protocol") rfl (Or.inl k_135) (by decide +kernel) (by decide +kernel : decode cX6_writeBit 100 = .ok (.getfield 33, 3)) hf (fun x100 hf => ?_)
        exact WW.sub [] rfl (t_X6_writeBit_103 hB hf hk)
      · refine r_aload_n hB 0 rfl (by decide +kernel : decode cX6_writeBit 92 = .ok (.aload_n 0, 1)) rfl ?_
        refine r_gI hB cf6 5 (by decide) (own := "PulseRemote$Protocol") rfl (Or.inl k_138) (by decide +kernel) (by decide +kernel : decode cX6_writeBit 93 = .ok (.getfield 36, 3)) hf (fun x93 hf => ?_)
        refine r_goto hB (tgt := 103) (by decide +kernel : decode cX6_writeBit 96 = .ok (.goto 7, 3)) (by decide) ?_
        exact WW.sub [] rfl (t_X6_writeBit_103 hB hf hk)
theorem m_X6_writeBit (l : Launch) (D : va_G) (cy : Nat → ClassId) (b : Nat) {l0 : Nat} {l1 : Int32} {l2 : Int32} {l3 : Nat} {μ : MS} {z : MS} (hf : f_X6_writeBit l0 l1 l2 l3 μ = some z) : Met l yX6_writeBit (.code yX6_writeBit cX6_writeBit 4 none :: GW) rmX6_writeBit (Pw D cy b [.ref (b + l0), .int l1, .int l2, .ref (b + l3)] μ) (Qw D cy b (none) (z)) rmX6_writeBit.cells rmX6_writeBit.slots (fun q => b ≤ q) :=
  met_of (by decide) (Nat.le_of_ble_eq_true rfl) (fun X hB _ => (t_X6_writeBit_0 hB hf ⟨rfl, rfl⟩))
-- PulseRemote$Protocol.writeFrame(ILPulseRemote$Train;)V
set_option maxHeartbeats 4000000 in
set_option maxRecDepth 100000 in
theorem t_X6_writeFrame_73 {X : BX} {D : va_G} {cy : Nat → ClassId} {b : Nat} {r : Option Value} {μ' : MS} (hB : BB X D cy b yX6_writeFrame cX6_writeFrame 4 none rmX6_writeFrame) {l2 : Nat} {μ : MS} {z : MS} (hf : f_X6_writeFrame_73 l2 μ = some z) (hk : (fun z : MS => r = none ∧ μ' = z) z) : WW X D cy b r μ' 4 0 0 73 [(2, .ref (b + l2))] [] μ := by
  unfold f_X6_writeFrame_73 at hf
  refine r_aload_n hB 0 rfl (by decide +kernel : decode cX6_writeFrame 73 = .ok (.aload_n 2, 1)) rfl ?_
  refine r_cVi hB [] [] cf10 (own := "PulseRemote$Protocol") rfl cmX10_endsWithMark imX10_endsWithMark (Or.inl k_878) (by decide) rfl rfl rfl (Nat.le_of_ble_eq_true rfl) (by decide +kernel : decode cX6_writeFrame 74 = .ok (.invokevirtual 64, 3)) (fun z hz => m_X10_endsWithMark _ _ _ _ hz) rfl hf (fun z74 hf => ?_)
  refine r_if_ne hB (tgt := 90) (by decide +kernel : decode cX6_writeFrame 77 = .ok (.ifCond .ne 13, 3)) (by decide) hf (fun _ hf => ?_) (fun _ hf => ?_)
  · refine r_aload_n hB 0 rfl (by decide +kernel : decode cX6_writeFrame 80 = .ok (.aload_n 2, 1)) rfl ?_
    refine r_dup hB (by decide +kernel : decode cX6_writeFrame 81 = .ok (.dup, 1)) rfl ?_
    refine r_gI hB cf10 1 (by decide) (own := "PulseRemote$Protocol") rfl (Or.inr ⟨_, k_203⟩) (by decide +kernel) (by decide +kernel : decode cX6_writeFrame 82 = .ok (.getfield 51, 3)) hf (fun x82 hf => ?_)
    refine r_iconst hB (v := 1) (by decide +kernel : decode cX6_writeFrame 85 = .ok (.iconst 1, 1)) (by decide +kernel) ?_
    refine r_isub hB (by decide +kernel : decode cX6_writeFrame 86 = .ok (.isub, 1)) ?_
    refine r_pI hB cf10 1 (by decide) (own := "PulseRemote$Protocol") rfl (Or.inr ⟨_, k_203⟩) (Or.inl rfl) rfl (by decide +kernel : decode cX6_writeFrame 87 = .ok (.putfield 51, 3)) hf (fun m87 hf => ?_)
    obtain rfl := Option.some.inj hf
    obtain ⟨rfl, rfl⟩ := hk
    exact r_vret hB (by decide +kernel : decode cX6_writeFrame 90 = .ok (.return_, 1))
  · obtain rfl := Option.some.inj hf
    obtain ⟨rfl, rfl⟩ := hk
    exact r_vret hB (by decide +kernel : decode cX6_writeFrame 90 = .ok (.return_, 1))
set_option maxHeartbeats 4000000 in
set_option maxRecDepth 100000 in
theorem t_X6_writeFrame_58 {X : BX} {D : va_G} {cy : Nat → ClassId} {b : Nat} {r : Option Value} {μ' : MS} (hB : BB X D cy b yX6_writeFrame cX6_writeFrame 4 none rmX6_writeFrame) {l0 : Nat} {l2 : Nat} {μ : MS} {z : MS} (hf : f_X6_writeFrame_58 l0 l2 μ = some z) (hk : (fun z : MS => r = none ∧ μ' = z) z) : WW X D cy b r μ' 4 0 0 58 [(0, .ref (b + l0)), (2, .ref (b + l2))] [] μ := by
  unfold f_X6_writeFrame_58 at hf
  refine r_aload_n hB 0 rfl (by decide +kernel : decode cX6_writeFrame 58 = .ok (.aload_n 0, 1)) rfl ?_
  refine r_gI hB cf6 0 (by decide) (own := "PulseRemote$Protocol") rfl (Or.inl k_123) (by decide +kernel) (by decide +kernel : decode cX6_writeFrame 59 = .ok (.getfield 9, 3)) hf (fun x59 hf => ?_)
  refine r_if_ne hB (tgt := 73) (by decide +kernel : decode cX6_writeFrame 62 = .ok (.ifCond .ne 11, 3)) (by decide) hf (fun _ hf => ?_) (fun _ hf => ?_)
  · refine r_aload_n hB 1 rfl (by decide +kernel : decode cX6_writeFrame 65 = .ok (.aload_n 2, 1)) rfl ?_
    refine r_aload_n hB 0 rfl (by decide +kernel : decode cX6_writeFrame 66 = .ok (.aload_n 0, 1)) rfl ?_
    refine r_gI hB cf6 3 (by decide) (own := "PulseRemote$Protocol") rfl (Or.inl k_132) (by decide +kernel) (by decide +kernel : decode cX6_writeFrame 67 = .ok (.getfield 30, 3)) hf (fun x67 hf => ?_)
    refine r_cVv hB [.int x67] [] cf10 (own := "PulseRemote$Protocol") rfl cmX10_put imX10_put (Or.inl k_867) (by decide) rfl rfl rfl (Nat.le_of_ble_eq_true rfl) (by decide +kernel : decode cX6_writeFrame 70 = .ok (.invokevirtual 56, 3)) (fun z hz => m_X10_put _ _ _ _ hz) rfl hf (fun z70 hf => ?_)
    exact WW.sub [1] rfl (t_X6_writeFrame_73 hB hf hk)
  · exact WW.sub [1] rfl (t_X6_writeFrame_73 hB hf hk)
set_option maxHeartbeats 4000000 in
set_option maxRecDepth 100000 in
theorem t_X6_writeFrame_47 {X : BX} {D : va_G} {cy : Nat → ClassId} {b : Nat} {r : Option Value} {μ' : MS} (hB : BB X D cy b yX6_writeFrame cX6_writeFrame 4 none rmX6_writeFrame) {l0 : Nat} {l1 : Int32} {l2 : Nat} {l3 : Int32} {s0 : Int32} {s1 : Nat} {μ : MS} {z : ((Nat × Int32 × Nat × Int32 × MS) ⊕ MS)} (hf : f_X6_writeFrame_47 l0 l1 l2 l3 s0 s1 μ = some z) (hk : (Sum.elim (fun s : Nat × Int32 × Nat × Int32 × MS => WW X D cy b r μ' 4 0 0 23 [(0, .ref (b + s.1)), (1, .int s.2.1), (2, .ref (b + s.2.2.1)), (3, .int s.2.2.2.1)] [] s.2.2.2.2) (fun z : MS => r = none ∧ μ' = z)) z) : WW X D cy b r μ' 4 0 0 47 [(0, .ref (b + l0)), (1, .int l1), (2, .ref (b + l2)), (3, .int l3)] [.int s0, .ref (b + s1)] μ := by
  unfold f_X6_writeFrame_47 at hf
  refine r_iload_n hB 3 rfl (by decide +kernel : decode cX6_writeFrame 47 = .ok (.iload_n 3, 1)) rfl ?_
  refine r_aload_n hB 2 rfl (by decide +kernel : decode cX6_writeFrame 48 = .ok (.aload_n 2, 1)) rfl ?_
  refine r_cVv hB [.int s0, .int l3, .ref (b + l2)] [] cf6 (own := "PulseRemote$Protocol") rfl cmX6_writeBit imX6_writeBit (Or.inl k_868) (by decide) rfl rfl rfl (Nat.le_of_ble_eq_true rfl) (by decide +kernel : decode cX6_writeFrame 49 = .ok (.invokevirtual 60, 3)) (fun z hz => m_X6_writeBit _ _ _ _ hz) rfl hf (fun z49 hf => ?_)
  refine r_iincB hB 3 rfl (by decide +kernel : decode cX6_writeFrame 52 = .ok (.iinc 3 1, 3)) (w := 1) (by decide +kernel) (by decide) hf (fun v52 hf => ?_)
  refine ww_lv (lv' := [(3, .int v52), (0, .ref (b + l0)), (1, .int l1), (2, .ref (b + l2))]) rfl ?_
  refine r_goto hB (tgt := 23) (by decide +kernel : decode cX6_writeFrame 55 = .ok (.goto (-32), 3)) (by decide) ?_
  obtain rfl := Option.some.inj hf
  exact WW.sub [1, 2, 3, 0] rfl hk
set_option maxHeartbeats 4000000 in
set_option maxRecDepth 100000 in
theorem t_X6_writeFrame_23_b {X : BX} {D : va_G} {cy : Nat → ClassId} {b : Nat} {r : Option Value} {μ' : MS} (hB : BB X D cy b yX6_writeFrame cX6_writeFrame 4 none rmX6_writeFrame) {l0 : Nat} {l1 : Int32} {l2 : Nat} {l3 : Int32} {μ : MS} {z : ((Nat × Int32 × Nat × Int32 × MS) ⊕ MS)} (hf : f_X6_writeFrame_23_b l0 l1 l2 l3 μ = some z) (hk : (Sum.elim (fun s : Nat × Int32 × Nat × Int32 × MS => WW X D cy b r μ' 4 0 0 23 [(0, .ref (b + s.1)), (1, .int s.2.1), (2, .ref (b + s.2.2.1)), (3, .int s.2.2.2.1)] [] s.2.2.2.2) (fun z : MS => r = none ∧ μ' = z)) z) : WW X D cy b r μ' 4 0 0 23 [(0, .ref (b + l0)), (1, .int l1), (2, .ref (b + l2)), (3, .int l3)] [] μ := by
  unfold f_X6_writeFrame_23_b at hf
  refine r_iload_n hB 3 rfl (by decide +kernel : decode cX6_writeFrame 23 = .ok (.iload_n 3, 1)) rfl ?_
  refine r_aload_n hB 0 rfl (by decide +kernel : decode cX6_writeFrame 24 = .ok (.aload_n 0, 1)) rfl ?_
  refine r_gI hB cf6 6 (by decide) (own := "PulseRemote$Protocol") rfl (Or.inl k_141) (by decide +kernel) (by decide +kernel : decode cX6_writeFrame 25 = .ok (.getfield 15, 3)) hf (fun x25 hf => ?_)
  refine r_icmp_ge hB (tgt := 58) (by decide +kernel : decode cX6_writeFrame 28 = .ok (.if_icmp .ge 30, 3)) (by decide) hf (fun _ hf => ?_) (fun _ hf => ?_)
  · obtain ⟨_, hx0, rfl⟩ := xr_inv hf
    exact WW.sub [0, 2] rfl (t_X6_writeFrame_58 hB hx0 hk)
  · refine r_aload_n hB 0 rfl (by decide +kernel : decode cX6_writeFrame 31 = .ok (.aload_n 0, 1)) rfl ?_
    refine r_iload_n hB 1 rfl (by decide +kernel : decode cX6_writeFrame 32 = .ok (.iload_n 1, 1)) rfl ?_
    refine r_aload_n hB 0 rfl (by decide +kernel : decode cX6_writeFrame 33 = .ok (.aload_n 0, 1)) rfl ?_
    refine r_iload_n hB 3 rfl (by decide +kernel : decode cX6_writeFrame 34 = .ok (.iload_n 3, 1)) rfl ?_
    refine r_cVi hB [.int l3] [.int l1, .ref (b + l0)] cf6 (own := "PulseRemote$Protocol") rfl cmX6_maskAt imX6_maskAt (Or.inl k_681) (by decide) rfl rfl rfl (Nat.le_of_ble_eq_true rfl) (by decide +kernel : decode cX6_writeFrame 35 = .ok (.invokevirtual 47, 3)) (fun z hz => m_X6_maskAt _ _ _ _ hz) rfl hf (fun z35 hf => ?_)
    refine r_iand hB (by decide +kernel : decode cX6_writeFrame 38 = .ok (.iand, 1)) ?_
    refine r_if_eq hB (tgt := 46) (by decide +kernel : decode cX6_writeFrame 39 = .ok (.ifCond .eq 7, 3)) (by decide) hf (fun _ hf => ?_) (fun _ hf => ?_)
    · refine r_iconst hB (v := 0) (by decide +kernel : decode cX6_writeFrame 46 = .ok (.iconst 0, 1)) (by decide +kernel) ?_
      exact WW.sub [0, 1, 2, 3] rfl (t_X6_writeFrame_47 hB hf hk)
    · refine r_iconst hB (v := 1) (by decide +kernel : decode cX6_writeFrame 42 = .ok (.iconst 1, 1)) (by decide +kernel) ?_
      refine r_goto hB (tgt := 47) (by decide +kernel : decode cX6_writeFrame 43 = .ok (.goto 4, 3)) (by decide) ?_
      exact WW.sub [0, 1, 2, 3] rfl (t_X6_writeFrame_47 hB hf hk)
set_option maxHeartbeats 4000000 in
set_option maxRecDepth 100000 in
theorem t_X6_writeFrame_23 {X : BX} {D : va_G} {cy : Nat → ClassId} {b : Nat} {r : Option Value} {μ' : MS} (hB : BB X D cy b yX6_writeFrame cX6_writeFrame 4 none rmX6_writeFrame) {l0 : Nat} {l1 : Int32} {l2 : Nat} {l3 : Int32} {μ : MS} {z : MS} (hf : f_X6_writeFrame_23 l0 l1 l2 l3 μ = some z) (hk : (fun z : MS => r = none ∧ μ' = z) z) : WW X D cy b r μ' 4 0 0 23 [(0, .ref (b + l0)), (1, .int l1), (2, .ref (b + l2)), (3, .int l3)] [] μ :=
  lp_ind (P := fun s : Nat × Int32 × Nat × Int32 × MS => WW X D cy b r μ' 4 0 0 23 [(0, .ref (b + s.1)), (1, .int s.2.1), (2, .ref (b + s.2.2.1)), (3, .int s.2.2.2.1)] [] s.2.2.2.2) (Q := (fun z : MS => r = none ∧ μ' = z)) (fun s z hz hk => t_X6_writeFrame_23_b hB hz hk) (l0, l1, l2, l3, μ) z hf hk
set_option maxHeartbeats 4000000 in
set_option maxRecDepth 100000 in
theorem t_X6_writeFrame_0 {X : BX} {D : va_G} {cy : Nat → ClassId} {b : Nat} {r : Option Value} {μ' : MS} (hB : BB X D cy b yX6_writeFrame cX6_writeFrame 4 none rmX6_writeFrame) {l0 : Nat} {l1 : Int32} {l2 : Nat} {μ : MS} {z : MS} (hf : f_X6_writeFrame l0 l1 l2 μ = some z) (hk : (fun z : MS => r = none ∧ μ' = z) z) : WW X D cy b r μ' 4 0 0 0 [(0, .ref (b + l0)), (1, .int l1), (2, .ref (b + l2))] [] μ := by
  unfold f_X6_writeFrame at hf
  refine r_aload_n hB 2 rfl (by decide +kernel : decode cX6_writeFrame 0 = .ok (.aload_n 2, 1)) rfl ?_
  refine r_iconst hB (v := 0) (by decide +kernel : decode cX6_writeFrame 1 = .ok (.iconst 0, 1)) (by decide +kernel) ?_
  refine r_pI hB cf10 1 (by decide) (own := "PulseRemote$Protocol") rfl (Or.inr ⟨_, k_203⟩) (Or.inl rfl) rfl (by decide +kernel : decode cX6_writeFrame 2 = .ok (.putfield 51, 3)) hf (fun m2 hf => ?_)
  refine r_aload_n hB 2 rfl (by decide +kernel : decode cX6_writeFrame 5 = .ok (.aload_n 2, 1)) rfl ?_
  refine r_aload_n hB 0 rfl (by decide +kernel : decode cX6_writeFrame 6 = .ok (.aload_n 0, 1)) rfl ?_
  refine r_gI hB cf6 1 (by decide) (own := "PulseRemote$Protocol") rfl (Or.inl k_126) (by decide +kernel) (by decide +kernel : decode cX6_writeFrame 7 = .ok (.getfield 24, 3)) hf (fun x7 hf => ?_)
  refine r_cVv hB [.int x7] [] cf10 (own := "PulseRemote$Protocol") rfl cmX10_put imX10_put (Or.inl k_867) (by decide) rfl rfl rfl (Nat.le_of_ble_eq_true rfl) (by decide +kernel : decode cX6_writeFrame 10 = .ok (.invokevirtual 56, 3)) (fun z hz => m_X10_put _ _ _ _ hz) rfl hf (fun z10 hf => ?_)
  refine r_aload_n hB 2 rfl (by decide +kernel : decode cX6_writeFrame 13 = .ok (.aload_n 2, 1)) rfl ?_
  refine r_aload_n hB 0 rfl (by decide +kernel : decode cX6_writeFrame 14 = .ok (.aload_n 0, 1)) rfl ?_
  refine r_gI hB cf6 2 (by decide) (own := "PulseRemote$Protocol") rfl (Or.inl k_129) (by decide +kernel) (by decide +kernel : decode cX6_writeFrame 15 = .ok (.getfield 27, 3)) hf (fun x15 hf => ?_)
  refine r_cVv hB [.int x15] [] cf10 (own := "PulseRemote$Protocol") rfl cmX10_put imX10_put (Or.inl k_867) (by decide) rfl rfl rfl (Nat.le_of_ble_eq_true rfl) (by decide +kernel : decode cX6_writeFrame 18 = .ok (.invokevirtual 56, 3)) (fun z hz => m_X10_put _ _ _ _ hz) rfl hf (fun z18 hf => ?_)
  refine r_iconst hB (v := 0) (by decide +kernel : decode cX6_writeFrame 21 = .ok (.iconst 0, 1)) (by decide +kernel) ?_
  refine r_istore_n hB (by decide +kernel : decode cX6_writeFrame 22 = .ok (.istore_n 3, 1)) rfl (by decide) rfl ?_
  refine ww_lv (lv' := [(3, .int 0), (0, .ref (b + l0)), (1, .int l1), (2, .ref (b + l2))]) rfl ?_
  exact WW.sub [1, 2, 3, 0] rfl (t_X6_writeFrame_23 hB hf hk)
theorem m_X6_writeFrame (l : Launch) (D : va_G) (cy : Nat → ClassId) (b : Nat) {l0 : Nat} {l1 : Int32} {l2 : Nat} {μ : MS} {z : MS} (hf : f_X6_writeFrame l0 l1 l2 μ = some z) : Met l yX6_writeFrame (.code yX6_writeFrame cX6_writeFrame 4 none :: GW) rmX6_writeFrame (Pw D cy b [.ref (b + l0), .int l1, .ref (b + l2)] μ) (Qw D cy b (none) (z)) rmX6_writeFrame.cells rmX6_writeFrame.slots (fun q => b ≤ q) :=
  met_of (by decide) (Nat.le_of_ble_eq_true rfl) (fun X hB _ => (t_X6_writeFrame_0 hB hf ⟨rfl, rfl⟩))
-- PulseRemote.appendScratch(LPulseRemote$Train;I)I
set_option maxHeartbeats 4000000 in
set_option maxRecDepth 100000 in
theorem t_X11_appendScratch_100 {X : BX} {D : va_G} {cy : Nat → ClassId} {b : Nat} {r : Option Value} {μ' : MS} (hB : BB X D cy b yX11_appendScratch cX11_appendScratch 5 (some .int) rmX11_appendScratch) {l1 : Nat} {μ : MS} {z : (Int32 × MS)} (hf : f_X11_appendScratch_100 l1 μ = some z) (hk : (fun z : Int32 × MS => r = some (.int z.1) ∧ μ' = z.2) z) : WW X D cy b r μ' 5 0 0 100 [(1, .ref (b + l1))] [] μ := by
  unfold f_X11_appendScratch_100 at hf
  refine r_aload_n hB 0 rfl (by decide +kernel : decode cX11_appendScratch 100 = .ok (.aload_n 1, 1)) rfl ?_
  refine r_gI hB cf10 1 (by decide) (own := "PulseRemote") rfl (Or.inr ⟨_, k_204⟩) (by decide +kernel) (by decide +kernel : decode cX11_appendScratch 101 = .ok (.getfield 244, 3)) hf (fun x101 hf => ?_)
  obtain rfl := Option.some.inj hf
  obtain ⟨rfl, rfl⟩ := hk
  exact r_iret hB (by decide +kernel : decode cX11_appendScratch 104 = .ok (.ireturn, 1))
set_option maxHeartbeats 4000000 in
set_option maxRecDepth 100000 in
theorem t_X11_appendScratch_69_b {X : BX} {D : va_G} {cy : Nat → ClassId} {b : Nat} {r : Option Value} {μ' : MS} (hB : BB X D cy b yX11_appendScratch cX11_appendScratch 5 (some .int) rmX11_appendScratch) {l0 : Nat} {l1 : Nat} {l4 : Int32} {μ : MS} {z : ((Nat × Nat × Int32 × MS) ⊕ (Int32 × MS))} (hf : f_X11_appendScratch_69_b l0 l1 l4 μ = some z) (hk : (Sum.elim (fun s : Nat × Nat × Int32 × MS => WW X D cy b r μ' 5 0 0 69 [(0, .ref (b + s.1)), (1, .ref (b + s.2.1)), (4, .int s.2.2.1)] [] s.2.2.2) (fun z : Int32 × MS => r = some (.int z.1) ∧ μ' = z.2)) z) : WW X D cy b r μ' 5 0 0 69 [(0, .ref (b + l0)), (1, .ref (b + l1)), (4, .int l4)] [] μ := by
  unfold f_X11_appendScratch_69_b at hf
  refine r_iload hB 2 rfl (by decide +kernel : decode cX11_appendScratch 69 = .ok (.iload 4, 2)) ?_
  refine r_aload_n hB 0 rfl (by decide +kernel : decode cX11_appendScratch 71 = .ok (.aload_n 0, 1)) rfl ?_
  refine r_gR hB cf11 5 (by decide) (own := "PulseRemote") rfl (Or.inl k_470) (by decide +kernel) (by decide +kernel : decode cX11_appendScratch 72 = .ok (.getfield 37, 3)) hf (fun x72 hf => ?_)
  refine r_gI hB cf10 1 (by decide) (own := "PulseRemote") rfl (Or.inr ⟨_, k_204⟩) (by decide +kernel) (by decide +kernel : decode cX11_appendScratch 75 = .ok (.getfield 244, 3)) hf (fun x75 hf => ?_)
  refine r_icmp_ge hB (tgt := 100) (by decide +kernel : decode cX11_appendScratch 78 = .ok (.if_icmp .ge 22, 3)) (by decide) hf (fun _ hf => ?_) (fun _ hf => ?_)
  · obtain ⟨_, hx0, rfl⟩ := xr_inv hf
    exact WW.sub [1] rfl (t_X11_appendScratch_100 hB hx0 hk)
  · refine r_aload_n hB 1 rfl (by decide +kernel : decode cX11_appendScratch 81 = .ok (.aload_n 1, 1)) rfl ?_
    refine r_aload_n hB 0 rfl (by decide +kernel : decode cX11_appendScratch 82 = .ok (.aload_n 0, 1)) rfl ?_
    refine r_gR hB cf11 5 (by decide) (own := "PulseRemote") rfl (Or.inl k_470) (by decide +kernel) (by decide +kernel : decode cX11_appendScratch 83 = .ok (.getfield 37, 3)) hf (fun x83 hf => ?_)
    refine r_iload hB 2 rfl (by decide +kernel : decode cX11_appendScratch 86 = .ok (.iload 4, 2)) ?_
    refine r_cVi hB [.int l4] [.ref (b + l1)] cf10 (own := "PulseRemote") rfl cmX10_at imX10_at (Or.inl k_884) (by decide) rfl rfl rfl (Nat.le_of_ble_eq_true rfl) (by decide +kernel : decode cX11_appendScratch 88 = .ok (.invokevirtual 283, 3)) (fun z hz => m_X10_at _ _ _ _ hz) rfl hf (fun z88 hf => ?_)
    refine r_cVv hB [.int z88.1] [] cf10 (own := "PulseRemote") rfl cmX10_put imX10_put (Or.inl k_855) (by decide) rfl rfl rfl (Nat.le_of_ble_eq_true rfl) (by decide +kernel : decode cX11_appendScratch 91 = .ok (.invokevirtual 245, 3)) (fun z hz => m_X10_put _ _ _ _ hz) rfl hf (fun z91 hf => ?_)
    refine r_iincB hB 2 rfl (by decide +kernel : decode cX11_appendScratch 94 = .ok (.iinc 4 1, 3)) (w := 1) (by decide +kernel) (by decide) hf (fun v94 hf => ?_)
    refine ww_lv (lv' := [(4, .int v94), (0, .ref (b + l0)), (1, .ref (b + l1))]) rfl ?_
    refine r_goto hB (tgt := 69) (by decide +kernel : decode cX11_appendScratch 97 = .ok (.goto (-28), 3)) (by decide) ?_
    obtain rfl := Option.some.inj hf
    exact WW.sub [1, 2, 0] rfl hk
set_option maxHeartbeats 4000000 in
set_option maxRecDepth 100000 in
theorem t_X11_appendScratch_69 {X : BX} {D : va_G} {cy : Nat → ClassId} {b : Nat} {r : Option Value} {μ' : MS} (hB : BB X D cy b yX11_appendScratch cX11_appendScratch 5 (some .int) rmX11_appendScratch) {l0 : Nat} {l1 : Nat} {l4 : Int32} {μ : MS} {z : (Int32 × MS)} (hf : f_X11_appendScratch_69 l0 l1 l4 μ = some z) (hk : (fun z : Int32 × MS => r = some (.int z.1) ∧ μ' = z.2) z) : WW X D cy b r μ' 5 0 0 69 [(0, .ref (b + l0)), (1, .ref (b + l1)), (4, .int l4)] [] μ :=
  lp_ind (P := fun s : Nat × Nat × Int32 × MS => WW X D cy b r μ' 5 0 0 69 [(0, .ref (b + s.1)), (1, .ref (b + s.2.1)), (4, .int s.2.2.1)] [] s.2.2.2) (Q := (fun z : Int32 × MS => r = some (.int z.1) ∧ μ' = z.2)) (fun s z hz hk => t_X11_appendScratch_69_b hB hz hk) (l0, l1, l4, μ) z hf hk
set_option maxHeartbeats 4000000 in
set_option maxRecDepth 100000 in
theorem t_X11_appendScratch_66 {X : BX} {D : va_G} {cy : Nat → ClassId} {b : Nat} {r : Option Value} {μ' : MS} (hB : BB X D cy b yX11_appendScratch cX11_appendScratch 5 (some .int) rmX11_appendScratch) {l0 : Nat} {l1 : Nat} {μ : MS} {z : (Int32 × MS)} (hf : f_X11_appendScratch_66 l0 l1 μ = some z) (hk : (fun z : Int32 × MS => r = some (.int z.1) ∧ μ' = z.2) z) : WW X D cy b r μ' 5 0 0 66 [(0, .ref (b + l0)), (1, .ref (b + l1))] [] μ := by
  unfold f_X11_appendScratch_66 at hf
  refine r_iconst hB (v := 0) (by decide +kernel : decode cX11_appendScratch 66 = .ok (.iconst 0, 1)) (by decide +kernel) ?_
  refine r_istore hB (by decide +kernel : decode cX11_appendScratch 67 = .ok (.istore 4, 2)) (by decide) rfl ?_
  refine ww_lv (lv' := [(4, .int 0), (0, .ref (b + l0)), (1, .ref (b + l1))]) rfl ?_
  exact WW.sub [1, 2, 0] rfl (t_X11_appendScratch_69 hB hf hk)
set_option maxHeartbeats 4000000 in
set_option maxRecDepth 100000 in
theorem t_X11_appendScratch_29 {X : BX} {D : va_G} {cy : Nat → ClassId} {b : Nat} {r : Option Value} {μ' : MS} (hB : BB X D cy b yX11_appendScratch cX11_appendScratch 5 (some .int) rmX11_appendScratch) {l0 : Nat} {l1 : Nat} {l2 : Int32} {s0 : Int32} {μ : MS} {z : (Int32 × MS)} (hf : f_X11_appendScratch_29 l0 l1 l2 s0 μ = some z) (hk : (fun z : Int32 × MS => r = some (.int z.1) ∧ μ' = z.2) z) : WW X D cy b r μ' 5 0 0 29 [(0, .ref (b + l0)), (1, .ref (b + l1)), (2, .int l2)] [.int s0] μ := by
  unfold f_X11_appendScratch_29 at hf
  refine r_istore_n hB (by decide +kernel : decode cX11_appendScratch 29 = .ok (.istore_n 3, 1)) rfl (by decide) rfl ?_
  refine ww_lv (lv' := [(3, .int s0), (0, .ref (b + l0)), (1, .ref (b + l1)), (2, .int l2)]) rfl ?_
  refine r_aload_n hB 2 rfl (by decide +kernel : decode cX11_appendScratch 30 = .ok (.aload_n 1, 1)) rfl ?_
  refine r_gI hB cf10 1 (by decide) (own := "PulseRemote") rfl (Or.inr ⟨_, k_204⟩) (by decide +kernel) (by decide +kernel : decode cX11_appendScratch 31 = .ok (.getfield 244, 3)) hf (fun x31 hf => ?_)
  refine r_iload_n hB 0 rfl (by decide +kernel : decode cX11_appendScratch 34 = .ok (.iload_n 3, 1)) rfl ?_
  refine r_iadd hB (by decide +kernel : decode cX11_appendScratch 35 = .ok (.iadd, 1)) ?_
  refine r_aload_n hB 1 rfl (by decide +kernel : decode cX11_appendScratch 36 = .ok (.aload_n 0, 1)) rfl ?_
  refine r_gR hB cf11 5 (by decide) (own := "PulseRemote") rfl (Or.inl k_470) (by decide +kernel) (by decide +kernel : decode cX11_appendScratch 37 = .ok (.getfield 37, 3)) hf (fun x37 hf => ?_)
  refine r_gI hB cf10 1 (by decide) (own := "PulseRemote") rfl (Or.inr ⟨_, k_204⟩) (by decide +kernel) (by decide +kernel : decode cX11_appendScratch 40 = .ok (.getfield 244, 3)) hf (fun x40 hf => ?_)
  refine r_iadd hB (by decide +kernel : decode cX11_appendScratch 43 = .ok (.iadd, 1)) ?_
  refine r_sipush hB (v := 200) (by decide +kernel : decode cX11_appendScratch 44 = .ok (.sipush 200, 3)) (by decide +kernel) ?_
  refine r_icmp_le hB (tgt := 53) (by decide +kernel : decode cX11_appendScratch 47 = .ok (.if_icmp .le 6, 3)) (by decide) hf (fun _ hf => ?_) (fun _ hf => ?_)
  · refine r_aload_n hB 1 rfl (by decide +kernel : decode cX11_appendScratch 53 = .ok (.aload_n 0, 1)) rfl ?_
    refine r_cVv hB [] [] cf11 (own := "PulseRemote") rfl cmX11_saveState imX11_saveState (Or.inl k_513) (by decide) rfl rfl rfl (Nat.le_of_ble_eq_true rfl) (by decide +kernel : decode cX11_appendScratch 54 = .ok (.invokevirtual 91, 3)) (fun z hz => m_X11_saveState _ _ _ _ hz) rfl hf (fun z54 hf => ?_)
    refine r_iload_n hB 0 rfl (by decide +kernel : decode cX11_appendScratch 57 = .ok (.iload_n 3, 1)) rfl ?_
    refine r_if_le hB (tgt := 66) (by decide +kernel : decode cX11_appendScratch 58 = .ok (.ifCond .le 8, 3)) (by decide) hf (fun _ hf => ?_) (fun _ hf => ?_)
    · exact WW.sub [1, 2] rfl (t_X11_appendScratch_66 hB hf hk)
    · refine r_aload_n hB 2 rfl (by decide +kernel : decode cX11_appendScratch 61 = .ok (.aload_n 1, 1)) rfl ?_
      refine r_iload_n hB 3 rfl (by decide +kernel : decode cX11_appendScratch 62 = .ok (.iload_n 2, 1)) rfl ?_
      refine r_cVv hB [.int l2] [] cf10 (own := "PulseRemote") rfl cmX10_put imX10_put (Or.inl k_855) (by decide) rfl rfl rfl (Nat.le_of_ble_eq_true rfl) (by decide +kernel : decode cX11_appendScratch 63 = .ok (.invokevirtual 245, 3)) (fun z hz => m_X10_put _ _ _ _ hz) rfl hf (fun z63 hf => ?_)
      exact WW.sub [1, 2] rfl (t_X11_appendScratch_66 hB hf hk)
  · refine r_bipush hB (v := (-3)) (by decide +kernel : decode cX11_appendScratch 50 = .ok (.bipush (-3), 2)) (by decide +kernel) ?_
    obtain rfl := Option.some.inj hf
    obtain ⟨rfl, rfl⟩ := hk
    exact r_iret hB (by decide +kernel : decode cX11_appendScratch 52 = .ok (.ireturn, 1))
set_option maxHeartbeats 4000000 in
set_option maxRecDepth 100000 in
theorem t_X11_appendScratch_17 {X : BX} {D : va_G} {cy : Nat → ClassId} {b : Nat} {r : Option Value} {μ' : MS} (hB : BB X D cy b yX11_appendScratch cX11_appendScratch 5 (some .int) rmX11_appendScratch) {l0 : Nat} {l1 : Nat} {l2 : Int32} {μ : MS} {z : (Int32 × MS)} (hf : f_X11_appendScratch_17 l0 l1 l2 μ = some z) (hk : (fun z : Int32 × MS => r = some (.int z.1) ∧ μ' = z.2) z) : WW X D cy b r μ' 5 0 0 17 [(0, .ref (b + l0)), (1, .ref (b + l1)), (2, .int l2)] [] μ := by
  unfold f_X11_appendScratch_17 at hf
  refine r_aload_n hB 1 rfl (by decide +kernel : decode cX11_appendScratch 17 = .ok (.aload_n 1, 1)) rfl ?_
  refine r_gI hB cf10 1 (by decide) (own := "PulseRemote") rfl (Or.inr ⟨_, k_204⟩) (by decide +kernel) (by decide +kernel : decode cX11_appendScratch 18 = .ok (.getfield 244, 3)) hf (fun x18 hf => ?_)
  refine r_if_le hB (tgt := 28) (by decide +kernel : decode cX11_appendScratch 21 = .ok (.ifCond .le 7, 3)) (by decide) hf (fun _ hf => ?_) (fun _ hf => ?_)
  · refine r_iconst hB (v := 0) (by decide +kernel : decode cX11_appendScratch 28 = .ok (.iconst 0, 1)) (by decide +kernel) ?_
    exact WW.sub [0, 1, 2] rfl (t_X11_appendScratch_29 hB hf hk)
  · refine r_iconst hB (v := 1) (by decide +kernel : decode cX11_appendScratch 24 = .ok (.iconst 1, 1)) (by decide +kernel) ?_
    refine r_goto hB (tgt := 29) (by decide +kernel : decode cX11_appendScratch 25 = .ok (.goto 4, 3)) (by decide) ?_
    exact WW.sub [0, 1, 2] rfl (t_X11_appendScratch_29 hB hf hk)
set_option maxHeartbeats 4000000 in
set_option maxRecDepth 100000 in
theorem t_X11_appendScratch_0 {X : BX} {D : va_G} {cy : Nat → ClassId} {b : Nat} {r : Option Value} {μ' : MS} (hB : BB X D cy b yX11_appendScratch cX11_appendScratch 5 (some .int) rmX11_appendScratch) {l0 : Nat} {l1 : Nat} {l2 : Int32} {μ : MS} {z : (Int32 × MS)} (hf : f_X11_appendScratch l0 l1 l2 μ = some z) (hk : (fun z : Int32 × MS => r = some (.int z.1) ∧ μ' = z.2) z) : WW X D cy b r μ' 5 0 0 0 [(0, .ref (b + l0)), (1, .ref (b + l1)), (2, .int l2)] [] μ := by
  unfold f_X11_appendScratch at hf
  refine r_aload_n hB 1 rfl (by decide +kernel : decode cX11_appendScratch 0 = .ok (.aload_n 1, 1)) rfl ?_
  refine r_gI hB cf10 1 (by decide) (own := "PulseRemote") rfl (Or.inr ⟨_, k_204⟩) (by decide +kernel) (by decide +kernel : decode cX11_appendScratch 1 = .ok (.getfield 244, 3)) hf (fun x1 hf => ?_)
  refine r_if_le hB (tgt := 17) (by decide +kernel : decode cX11_appendScratch 4 = .ok (.ifCond .le 13, 3)) (by decide) hf (fun _ hf => ?_) (fun _ hf => ?_)
  · exact WW.sub [0, 1, 2] rfl (t_X11_appendScratch_17 hB hf hk)
  · refine r_aload_n hB 1 rfl (by decide +kernel : decode cX11_appendScratch 7 = .ok (.aload_n 1, 1)) rfl ?_
    refine r_cVi hB [] [] cf10 (own := "PulseRemote") rfl cmX10_endsWithMark imX10_endsWithMark (Or.inl k_883) (by decide) rfl rfl rfl (Nat.le_of_ble_eq_true rfl) (by decide +kernel : decode cX11_appendScratch 8 = .ok (.invokevirtual 260, 3)) (fun z hz => m_X10_endsWithMark _ _ _ _ hz) rfl hf (fun z8 hf => ?_)
    refine r_if_ne hB (tgt := 17) (by decide +kernel : decode cX11_appendScratch 11 = .ok (.ifCond .ne 6, 3)) (by decide) hf (fun _ hf => ?_) (fun _ hf => ?_)
    · refine r_bipush hB (v := (-2)) (by decide +kernel : decode cX11_appendScratch 14 = .ok (.bipush (-2), 2)) (by decide +kernel) ?_
      obtain rfl := Option.some.inj hf
      obtain ⟨rfl, rfl⟩ := hk
      exact r_iret hB (by decide +kernel : decode cX11_appendScratch 16 = .ok (.ireturn, 1))
    · exact WW.sub [0, 1, 2] rfl (t_X11_appendScratch_17 hB hf hk)
theorem m_X11_appendScratch (l : Launch) (D : va_G) (cy : Nat → ClassId) (b : Nat) {l0 : Nat} {l1 : Nat} {l2 : Int32} {μ : MS} {z : Int32 × MS} (hf : f_X11_appendScratch l0 l1 l2 μ = some z) : Met l yX11_appendScratch (.code yX11_appendScratch cX11_appendScratch 5 (some .int) :: GW) rmX11_appendScratch (Pw D cy b [.ref (b + l0), .ref (b + l1), .int l2] μ) (Qw D cy b (some (.int z.1)) (z.2)) rmX11_appendScratch.cells rmX11_appendScratch.slots (fun q => b ≤ q) :=
  met_of (by decide) (Nat.le_of_ble_eq_true rfl) (fun X hB _ => (t_X11_appendScratch_0 hB hf ⟨rfl, rfl⟩))
-- PulseRemote.send(IIII)I
set_option maxHeartbeats 4000000 in
set_option maxRecDepth 100000 in
theorem t_X11_send_0 {X : BX} {D : va_G} {cy : Nat → ClassId} {b : Nat} {r : Option Value} {μ' : MS} (hB : BB X D cy b yX11_send cX11_send 5 (some .int) rmX11_send) {l0 : Nat} {l1 : Int32} {l2 : Int32} {l3 : Int32} {l4 : Int32} {μ : MS} {z : (Int32 × MS)} (hf : f_X11_send l0 l1 l2 l3 l4 μ = some z) (hk : (fun z : Int32 × MS => r = some (.int z.1) ∧ μ' = z.2) z) : WW X D cy b r μ' 5 0 0 0 [(0, .ref (b + l0)), (1, .int l1), (2, .int l2), (3, .int l3), (4, .int l4)] [] μ := by
  unfold f_X11_send at hf
  refine r_iload_n hB 1 rfl (by decide +kernel : decode cX11_send 0 = .ok (.iload_n 1, 1)) rfl ?_
  refine r_cSi hB [.int l1] [] (own := "PulseRemote") rfl cmX11_isSlot smX11_isSlot (Or.inl ⟨rfl, k_589⟩) (by decide) rfl rfl rfl (Nat.le_of_ble_eq_true rfl) (by decide +kernel : decode cX11_send 1 = .ok (.invokestatic 156, 3)) (fun z hz => m_X11_isSlot _ _ _ _ hz) rfl hf (fun z1 hf => ?_)
  refine r_if_eq hB (tgt := 50) (by decide +kernel : decode cX11_send 4 = .ok (.ifCond .eq 46, 3)) (by decide) hf (fun _ hf => ?_) (fun _ hf => ?_)
  · refine r_iconst hB (v := (-1)) (by decide +kernel : decode cX11_send 50 = .ok (.iconst (-1), 1)) (by decide +kernel) ?_
    obtain rfl := Option.some.inj hf
    obtain ⟨rfl, rfl⟩ := hk
    exact r_iret hB (by decide +kernel : decode cX11_send 51 = .ok (.ireturn, 1))
  · refine r_aload_n hB 0 rfl (by decide +kernel : decode cX11_send 7 = .ok (.aload_n 0, 1)) rfl ?_
    refine r_gR hB cf11 0 (by decide) (own := "PulseRemote") rfl (Or.inl k_465) (by decide +kernel) (by decide +kernel : decode cX11_send 8 = .ok (.getfield 12, 3)) hf (fun x8 hf => ?_)
    refine r_gR hB cf7 0 (by decide) (own := "PulseRemote") rfl (Or.inr ⟨_, k_212⟩) (by decide +kernel) (by decide +kernel : decode cX11_send 11 = .ok (.getfield 84, 3)) hf (fun x11 hf => ?_)
    refine r_iload_n hB 2 rfl (by decide +kernel : decode cX11_send 14 = .ok (.iload_n 2, 1)) rfl ?_
    refine r_cVi hB [.int l2] [] cf8 (own := "PulseRemote") rfl cmX8_hasProtocol imX8_hasProtocol (Or.inl k_565) (by decide) rfl rfl rfl (Nat.le_of_ble_eq_true rfl) (by decide +kernel : decode cX11_send 15 = .ok (.invokevirtual 98, 3)) (fun z hz => m_X8_hasProtocol _ _ _ _ hz) rfl hf (fun z15 hf => ?_)
    refine r_if_eq hB (tgt := 50) (by decide +kernel : decode cX11_send 18 = .ok (.ifCond .eq 32, 3)) (by decide) hf (fun _ hf => ?_) (fun _ hf => ?_)
    · refine r_iconst hB (v := (-1)) (by decide +kernel : decode cX11_send 50 = .ok (.iconst (-1), 1)) (by decide +kernel) ?_
      obtain rfl := Option.some.inj hf
      obtain ⟨rfl, rfl⟩ := hk
      exact r_iret hB (by decide +kernel : decode cX11_send 51 = .ok (.ireturn, 1))
    · refine r_aload_n hB 0 rfl (by decide +kernel : decode cX11_send 21 = .ok (.aload_n 0, 1)) rfl ?_
      refine r_gR hB cf11 0 (by decide) (own := "PulseRemote") rfl (Or.inl k_465) (by decide +kernel) (by decide +kernel : decode cX11_send 22 = .ok (.getfield 12, 3)) hf (fun x22 hf => ?_)
      refine r_gR hB cf7 0 (by decide) (own := "PulseRemote") rfl (Or.inr ⟨_, k_212⟩) (by decide +kernel) (by decide +kernel : decode cX11_send 25 = .ok (.getfield 84, 3)) hf (fun x25 hf => ?_)
      refine r_iload_n hB 2 rfl (by decide +kernel : decode cX11_send 28 = .ok (.iload_n 2, 1)) rfl ?_
      refine r_cVr hB [.int l2] [] cf8 (own := "PulseRemote") rfl cmX8_protocolAt imX8_protocolAt (Or.inl k_569) (by decide) rfl rfl rfl (Nat.le_of_ble_eq_true rfl) (by decide +kernel : decode cX11_send 29 = .ok (.invokevirtual 102, 3)) (fun z hz => m_X8_protocolAt _ _ _ _ hz) rfl hf (fun z29 hf => ?_)
      refine r_iload_n hB 3 rfl (by decide +kernel : decode cX11_send 32 = .ok (.iload_n 3, 1)) rfl ?_
      refine r_cVi hB [.int l3] [] cf6 (own := "PulseRemote") rfl cmX6_hasCode imX6_hasCode (Or.inl k_673) (by decide) rfl rfl rfl (Nat.le_of_ble_eq_true rfl) (by decide +kernel : decode cX11_send 33 = .ok (.invokevirtual 196, 3)) (fun z hz => m_X6_hasCode _ _ _ _ hz) rfl hf (fun z33 hf => ?_)
      refine r_if_eq hB (tgt := 50) (by decide +kernel : decode cX11_send 36 = .ok (.ifCond .eq 14, 3)) (by decide) hf (fun _ hf => ?_) (fun _ hf => ?_)
      · refine r_iconst hB (v := (-1)) (by decide +kernel : decode cX11_send 50 = .ok (.iconst (-1), 1)) (by decide +kernel) ?_
        obtain rfl := Option.some.inj hf
        obtain ⟨rfl, rfl⟩ := hk
        exact r_iret hB (by decide +kernel : decode cX11_send 51 = .ok (.ireturn, 1))
      · refine r_iload hB 4 rfl (by decide +kernel : decode cX11_send 39 = .ok (.iload 4, 2)) ?_
        refine r_iconst hB (v := 1) (by decide +kernel : decode cX11_send 41 = .ok (.iconst 1, 1)) (by decide +kernel) ?_
        refine r_ldc hB (v := 60000) (own := "PulseRemote") rfl k_720 (by decide +kernel : decode cX11_send 42 = .ok (.ldc 222, 2)) ?_
        refine r_cSi hB [.int l4, .int 1, .int 60000] [] (own := "PulseRemote") rfl cmX11_inRange smX11_inRange (Or.inl ⟨rfl, k_506⟩) (by decide) rfl rfl rfl (Nat.le_of_ble_eq_true rfl) (by decide +kernel : decode cX11_send 44 = .ok (.invokestatic 80, 3)) (fun z hz => m_X11_inRange _ _ _ _ hz) rfl hf (fun z44 hf => ?_)
        refine r_if_ne hB (tgt := 52) (by decide +kernel : decode cX11_send 47 = .ok (.ifCond .ne 5, 3)) (by decide) hf (fun _ hf => ?_) (fun _ hf => ?_)
        · refine r_iconst hB (v := (-1)) (by decide +kernel : decode cX11_send 50 = .ok (.iconst (-1), 1)) (by decide +kernel) ?_
          obtain rfl := Option.some.inj hf
          obtain ⟨rfl, rfl⟩ := hk
          exact r_iret hB (by decide +kernel : decode cX11_send 51 = .ok (.ireturn, 1))
        · refine r_aload_n hB 0 rfl (by decide +kernel : decode cX11_send 52 = .ok (.aload_n 0, 1)) rfl ?_
          refine r_gR hB cf11 0 (by decide) (own := "PulseRemote") rfl (Or.inl k_465) (by decide +kernel) (by decide +kernel : decode cX11_send 53 = .ok (.getfield 12, 3)) hf (fun x53 hf => ?_)
          refine r_gR hB cf7 0 (by decide) (own := "PulseRemote") rfl (Or.inr ⟨_, k_212⟩) (by decide +kernel) (by decide +kernel : decode cX11_send 56 = .ok (.getfield 84, 3)) hf (fun x56 hf => ?_)
          refine r_iload_n hB 2 rfl (by decide +kernel : decode cX11_send 59 = .ok (.iload_n 2, 1)) rfl ?_
          refine r_cVr hB [.int l2] [] cf8 (own := "PulseRemote") rfl cmX8_protocolAt imX8_protocolAt (Or.inl k_569) (by decide) rfl rfl rfl (Nat.le_of_ble_eq_true rfl) (by decide +kernel : decode cX11_send 60 = .ok (.invokevirtual 102, 3)) (fun z hz => m_X8_protocolAt _ _ _ _ hz) rfl hf (fun z60 hf => ?_)
          refine r_iload_n hB 3 rfl (by decide +kernel : decode cX11_send 63 = .ok (.iload_n 3, 1)) rfl ?_
          refine r_aload_n hB 0 rfl (by decide +kernel : decode cX11_send 64 = .ok (.aload_n 0, 1)) rfl ?_
          refine r_gR hB cf11 5 (by decide) (own := "PulseRemote") rfl (Or.inl k_470) (by decide +kernel) (by decide +kernel : decode cX11_send 65 = .ok (.getfield 37, 3)) hf (fun x65 hf => ?_)
          refine r_cVv hB [.int l3, .ref (b + x65)] [] cf6 (own := "PulseRemote") rfl cmX6_writeFrame imX6_writeFrame (Or.inl k_863) (by decide) rfl rfl rfl (Nat.le_of_ble_eq_true rfl) (by decide +kernel : decode cX11_send 68 = .ok (.invokevirtual 248, 3)) (fun z hz => m_X6_writeFrame _ _ _ _ hz) rfl hf (fun z68 hf => ?_)
          refine r_aload_n hB 0 rfl (by decide +kernel : decode cX11_send 71 = .ok (.aload_n 0, 1)) rfl ?_
          refine r_aload_n hB 0 rfl (by decide +kernel : decode cX11_send 72 = .ok (.aload_n 0, 1)) rfl ?_
          refine r_gR hB cf11 0 (by decide) (own := "PulseRemote") rfl (Or.inl k_465) (by decide +kernel) (by decide +kernel : decode cX11_send 73 = .ok (.getfield 12, 3)) hf (fun x73 hf => ?_)
          refine r_iload_n hB 1 rfl (by decide +kernel : decode cX11_send 76 = .ok (.iload_n 1, 1)) rfl ?_
          refine r_cVr hB [.int l1] [.ref (b + l0)] cf7 (own := "PulseRemote") rfl cmX7_trainAt imX7_trainAt (Or.inl k_592) (by decide) rfl rfl rfl (Nat.le_of_ble_eq_true rfl) (by decide +kernel : decode cX11_send 77 = .ok (.invokevirtual 159, 3)) (fun z hz => m_X7_trainAt _ _ _ _ hz) rfl hf (fun z77 hf => ?_)
          refine r_iload hB 4 rfl (by decide +kernel : decode cX11_send 80 = .ok (.iload 4, 2)) ?_
          refine r_cVi hB [.ref (b + z77.1), .int l4] [] cf11 (own := "PulseRemote") rfl cmX11_appendScratch imX11_appendScratch (Or.inl k_879) (by decide) rfl rfl rfl (Nat.le_of_ble_eq_true rfl) (by decide +kernel : decode cX11_send 82 = .ok (.invokevirtual 252, 3)) (fun z hz => m_X11_appendScratch _ _ _ _ hz) rfl hf (fun z82 hf => ?_)
          obtain rfl := Option.some.inj hf
          obtain ⟨rfl, rfl⟩ := hk
          exact r_iret hB (by decide +kernel : decode cX11_send 85 = .ok (.ireturn, 1))
theorem m_X11_send (l : Launch) (D : va_G) (cy : Nat → ClassId) (b : Nat) {l0 : Nat} {l1 : Int32} {l2 : Int32} {l3 : Int32} {l4 : Int32} {μ : MS} {z : Int32 × MS} (hf : f_X11_send l0 l1 l2 l3 l4 μ = some z) : Met l yX11_send (.code yX11_send cX11_send 5 (some .int) :: GW) rmX11_send (Pw D cy b [.ref (b + l0), .int l1, .int l2, .int l3, .int l4] μ) (Qw D cy b (some (.int z.1)) (z.2)) rmX11_send.cells rmX11_send.slots (fun q => b ≤ q) :=
  met_of (by decide) (Nat.le_of_ble_eq_true rfl) (fun X hB _ => (t_X11_send_0 hB hf ⟨rfl, rfl⟩))
-- PulseRemote$Protocol.writeShortFrame(LPulseRemote$Train;)V
set_option maxHeartbeats 4000000 in
set_option maxRecDepth 100000 in
theorem t_X6_writeShortFrame_0 {X : BX} {D : va_G} {cy : Nat → ClassId} {b : Nat} {r : Option Value} {μ' : MS} (hB : BB X D cy b yX6_writeShortFrame cX6_writeShortFrame 2 none rmX6_writeShortFrame) {l0 : Nat} {l1 : Nat} {μ : MS} {z : MS} (hf : f_X6_writeShortFrame l0 l1 μ = some z) (hk : (fun z : MS => r = none ∧ μ' = z) z) : WW X D cy b r μ' 2 0 0 0 [(0, .ref (b + l0)), (1, .ref (b + l1))] [] μ := by
  unfold f_X6_writeShortFrame at hf
  refine r_aload_n hB 1 rfl (by decide +kernel : decode cX6_writeShortFrame 0 = .ok (.aload_n 1, 1)) rfl ?_
  refine r_iconst hB (v := 0) (by decide +kernel : decode cX6_writeShortFrame 1 = .ok (.iconst 0, 1)) (by decide +kernel) ?_
  refine r_pI hB cf10 1 (by decide) (own := "PulseRemote$Protocol") rfl (Or.inr ⟨_, k_203⟩) (Or.inl rfl) rfl (by decide +kernel : decode cX6_writeShortFrame 2 = .ok (.putfield 51, 3)) hf (fun m2 hf => ?_)
  refine r_aload_n hB 1 rfl (by decide +kernel : decode cX6_writeShortFrame 5 = .ok (.aload_n 1, 1)) rfl ?_
  refine r_aload_n hB 0 rfl (by decide +kernel : decode cX6_writeShortFrame 6 = .ok (.aload_n 0, 1)) rfl ?_
  refine r_gI hB cf6 1 (by decide) (own := "PulseRemote$Protocol") rfl (Or.inl k_126) (by decide +kernel) (by decide +kernel : decode cX6_writeShortFrame 7 = .ok (.getfield 24, 3)) hf (fun x7 hf => ?_)
  refine r_cVv hB [.int x7] [] cf10 (own := "PulseRemote$Protocol") rfl cmX10_put imX10_put (Or.inl k_867) (by decide) rfl rfl rfl (Nat.le_of_ble_eq_true rfl) (by decide +kernel : decode cX6_writeShortFrame 10 = .ok (.invokevirtual 56, 3)) (fun z hz => m_X10_put _ _ _ _ hz) rfl hf (fun z10 hf => ?_)
  refine r_aload_n hB 1 rfl (by decide +kernel : decode cX6_writeShortFrame 13 = .ok (.aload_n 1, 1)) rfl ?_
  refine r_aload_n hB 0 rfl (by decide +kernel : decode cX6_writeShortFrame 14 = .ok (.aload_n 0, 1)) rfl ?_
  refine r_gI hB cf6 2 (by decide) (own := "PulseRemote$Protocol") rfl (Or.inl k_129) (by decide +kernel) (by decide +kernel : decode cX6_writeShortFrame 15 = .ok (.getfield 27, 3)) hf (fun x15 hf => ?_)
  refine r_iconst hB (v := 2) (by decide +kernel : decode cX6_writeShortFrame 18 = .ok (.iconst 2, 1)) (by decide +kernel) ?_
  refine r_idiv hB (by decide +kernel : decode cX6_writeShortFrame 19 = .ok (.idiv, 1)) hf (fun v19 hf => ?_)
  refine r_cVv hB [.int v19] [] cf10 (own := "PulseRemote$Protocol") rfl cmX10_put imX10_put (Or.inl k_867) (by decide) rfl rfl rfl (Nat.le_of_ble_eq_true rfl) (by decide +kernel : decode cX6_writeShortFrame 20 = .ok (.invokevirtual 56, 3)) (fun z hz => m_X10_put _ _ _ _ hz) rfl hf (fun z20 hf => ?_)
  refine r_aload_n hB 1 rfl (by decide +kernel : decode cX6_writeShortFrame 23 = .ok (.aload_n 1, 1)) rfl ?_
  refine r_aload_n hB 0 rfl (by decide +kernel : decode cX6_writeShortFrame 24 = .ok (.aload_n 0, 1)) rfl ?_
  refine r_gI hB cf6 3 (by decide) (own := "PulseRemote$Protocol") rfl (Or.inl k_132) (by decide +kernel) (by decide +kernel : decode cX6_writeShortFrame 25 = .ok (.getfield 30, 3)) hf (fun x25 hf => ?_)
  refine r_cVv hB [.int x25] [] cf10 (own := "PulseRemote$Protocol") rfl cmX10_put imX10_put (Or.inl k_867) (by decide) rfl rfl rfl (Nat.le_of_ble_eq_true rfl) (by decide +kernel : decode cX6_writeShortFrame 28 = .ok (.invokevirtual 56, 3)) (fun z hz => m_X10_put _ _ _ _ hz) rfl hf (fun z28 hf => ?_)
  obtain rfl := Option.some.inj hf
  obtain ⟨rfl, rfl⟩ := hk
  exact r_vret hB (by decide +kernel : decode cX6_writeShortFrame 31 = .ok (.return_, 1))
theorem m_X6_writeShortFrame (l : Launch) (D : va_G) (cy : Nat → ClassId) (b : Nat) {l0 : Nat} {l1 : Nat} {μ : MS} {z : MS} (hf : f_X6_writeShortFrame l0 l1 μ = some z) : Met l yX6_writeShortFrame (.code yX6_writeShortFrame cX6_writeShortFrame 2 none :: GW) rmX6_writeShortFrame (Pw D cy b [.ref (b + l0), .ref (b + l1)] μ) (Qw D cy b (none) (z)) rmX6_writeShortFrame.cells rmX6_writeShortFrame.slots (fun q => b ≤ q) :=
  met_of (by decide) (Nat.le_of_ble_eq_true rfl) (fun X hB _ => (t_X6_writeShortFrame_0 hB hf ⟨rfl, rfl⟩))
