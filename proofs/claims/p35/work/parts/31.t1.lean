/-! printed by wip/p35/gen.py -/
-- PulseRemote$Table.protocolOfButton(I)I
set_option maxHeartbeats 4000000 in
set_option maxRecDepth 100000 in
theorem t_X8_protocolOfButton_0 {X : BX} {D : va_G} {cy : Nat → ClassId} {b : Nat} {r : Option Value} {μ' : MS} (hB : BB X D cy b yX8_protocolOfButton cX8_protocolOfButton 2 (some .int) rmX8_protocolOfButton) {l0 : Nat} {l1 : Int32} {μ : MS} {z : (Int32 × MS)} (hf : f_X8_protocolOfButton l0 l1 μ = some z) (hk : (fun z : Int32 × MS => r = some (.int z.1) ∧ μ' = z.2) z) : WW X D cy b r μ' 2 0 0 0 [(0, .ref (b + l0)), (1, .int l1)] [] μ := by
  unfold f_X8_protocolOfButton at hf
  refine r_aload_n hB 0 rfl (by decide +kernel : decode cX8_protocolOfButton 0 = .ok (.aload_n 0, 1)) rfl ?_
  refine r_iload_n hB 1 rfl (by decide +kernel : decode cX8_protocolOfButton 1 = .ok (.iload_n 1, 1)) rfl ?_
  refine r_cVi hB [.int l1] [] cf8 (own := "PulseRemote$Table") rfl cmX8_hasButton imX8_hasButton (Or.inl k_674) (by decide) rfl rfl rfl (Nat.le_of_ble_eq_true rfl) (by decide +kernel : decode cX8_protocolOfButton 2 = .ok (.invokevirtual 54, 3)) (fun z hz => m_X8_hasButton _ _ _ _ hz) rfl hf (fun z2 hf => ?_)
  refine r_if_eq hB (tgt := 17) (by decide +kernel : decode cX8_protocolOfButton 5 = .ok (.ifCond .eq 12, 3)) (by decide) hf (fun _ hf => ?_) (fun _ hf => ?_)
  · refine r_bipush hB (v := (-9)) (by decide +kernel : decode cX8_protocolOfButton 17 = .ok (.bipush (-9), 2)) (by decide +kernel) ?_
    obtain rfl := Option.some.inj hf
    obtain ⟨rfl, rfl⟩ := hk
    exact r_iret hB (by decide +kernel : decode cX8_protocolOfButton 19 = .ok (.ireturn, 1))
  · refine r_aload_n hB 0 rfl (by decide +kernel : decode cX8_protocolOfButton 8 = .ok (.aload_n 0, 1)) rfl ?_
    refine r_gR hB cf8 2 (by decide) (own := "PulseRemote$Table") rfl (Or.inl k_114) (by decide +kernel) (by decide +kernel : decode cX8_protocolOfButton 9 = .ok (.getfield 17, 3)) hf (fun x9 hf => ?_)
    refine r_iload_n hB 1 rfl (by decide +kernel : decode cX8_protocolOfButton 12 = .ok (.iload_n 1, 1)) rfl ?_
    refine r_iald hB (by decide +kernel : decode cX8_protocolOfButton 13 = .ok (.iaload, 1)) hf (fun x13 hf => ?_)
    refine r_goto hB (tgt := 19) (by decide +kernel : decode cX8_protocolOfButton 14 = .ok (.goto 5, 3)) (by decide) ?_
    obtain rfl := Option.some.inj hf
    obtain ⟨rfl, rfl⟩ := hk
    exact r_iret hB (by decide +kernel : decode cX8_protocolOfButton 19 = .ok (.ireturn, 1))
theorem m_X8_protocolOfButton (l : Launch) (D : va_G) (cy : Nat → ClassId) (b : Nat) {l0 : Nat} {l1 : Int32} {μ : MS} {z : Int32 × MS} (hf : f_X8_protocolOfButton l0 l1 μ = some z) : Met l yX8_protocolOfButton (.code yX8_protocolOfButton cX8_protocolOfButton 2 (some .int) :: GW) rmX8_protocolOfButton (Pw D cy b [.ref (b + l0), .int l1] μ) (Qw D cy b (some (.int z.1)) (z.2)) rmX8_protocolOfButton.cells rmX8_protocolOfButton.slots (fun q => b ≤ q) :=
  met_of (by decide) (Nat.le_of_ble_eq_true rfl) (fun X hB _ => (t_X8_protocolOfButton_0 hB hf ⟨rfl, rfl⟩))
-- PulseRemote$Table.identityOfButton(I)I
set_option maxHeartbeats 4000000 in
set_option maxRecDepth 100000 in
theorem t_X8_identityOfButton_0 {X : BX} {D : va_G} {cy : Nat → ClassId} {b : Nat} {r : Option Value} {μ' : MS} (hB : BB X D cy b yX8_identityOfButton cX8_identityOfButton 2 (some .int) rmX8_identityOfButton) {l0 : Nat} {l1 : Int32} {μ : MS} {z : (Int32 × MS)} (hf : f_X8_identityOfButton l0 l1 μ = some z) (hk : (fun z : Int32 × MS => r = some (.int z.1) ∧ μ' = z.2) z) : WW X D cy b r μ' 2 0 0 0 [(0, .ref (b + l0)), (1, .int l1)] [] μ := by
  unfold f_X8_identityOfButton at hf
  refine r_aload_n hB 0 rfl (by decide +kernel : decode cX8_identityOfButton 0 = .ok (.aload_n 0, 1)) rfl ?_
  refine r_iload_n hB 1 rfl (by decide +kernel : decode cX8_identityOfButton 1 = .ok (.iload_n 1, 1)) rfl ?_
  refine r_cVi hB [.int l1] [] cf8 (own := "PulseRemote$Table") rfl cmX8_hasButton imX8_hasButton (Or.inl k_674) (by decide) rfl rfl rfl (Nat.le_of_ble_eq_true rfl) (by decide +kernel : decode cX8_identityOfButton 2 = .ok (.invokevirtual 54, 3)) (fun z hz => m_X8_hasButton _ _ _ _ hz) rfl hf (fun z2 hf => ?_)
  refine r_if_eq hB (tgt := 17) (by decide +kernel : decode cX8_identityOfButton 5 = .ok (.ifCond .eq 12, 3)) (by decide) hf (fun _ hf => ?_) (fun _ hf => ?_)
  · refine r_bipush hB (v := (-9)) (by decide +kernel : decode cX8_identityOfButton 17 = .ok (.bipush (-9), 2)) (by decide +kernel) ?_
    obtain rfl := Option.some.inj hf
    obtain ⟨rfl, rfl⟩ := hk
    exact r_iret hB (by decide +kernel : decode cX8_identityOfButton 19 = .ok (.ireturn, 1))
  · refine r_aload_n hB 0 rfl (by decide +kernel : decode cX8_identityOfButton 8 = .ok (.aload_n 0, 1)) rfl ?_
    refine r_gR hB cf8 3 (by decide) (own := "PulseRemote$Table") rfl (Or.inl k_115) (by decide +kernel) (by decide +kernel : decode cX8_identityOfButton 9 = .ok (.getfield 21, 3)) hf (fun x9 hf => ?_)
    refine r_iload_n hB 1 rfl (by decide +kernel : decode cX8_identityOfButton 12 = .ok (.iload_n 1, 1)) rfl ?_
    refine r_iald hB (by decide +kernel : decode cX8_identityOfButton 13 = .ok (.iaload, 1)) hf (fun x13 hf => ?_)
    refine r_goto hB (tgt := 19) (by decide +kernel : decode cX8_identityOfButton 14 = .ok (.goto 5, 3)) (by decide) ?_
    obtain rfl := Option.some.inj hf
    obtain ⟨rfl, rfl⟩ := hk
    exact r_iret hB (by decide +kernel : decode cX8_identityOfButton 19 = .ok (.ireturn, 1))
theorem m_X8_identityOfButton (l : Launch) (D : va_G) (cy : Nat → ClassId) (b : Nat) {l0 : Nat} {l1 : Int32} {μ : MS} {z : Int32 × MS} (hf : f_X8_identityOfButton l0 l1 μ = some z) : Met l yX8_identityOfButton (.code yX8_identityOfButton cX8_identityOfButton 2 (some .int) :: GW) rmX8_identityOfButton (Pw D cy b [.ref (b + l0), .int l1] μ) (Qw D cy b (some (.int z.1)) (z.2)) rmX8_identityOfButton.cells rmX8_identityOfButton.slots (fun q => b ≤ q) :=
  met_of (by decide) (Nat.le_of_ble_eq_true rfl) (fun X hB _ => (t_X8_identityOfButton_0 hB hf ⟨rfl, rfl⟩))
-- PulseRemote$Table.findButton(II)I
set_option maxHeartbeats 4000000 in
set_option maxRecDepth 100000 in
theorem t_X8_findButton_36 {X : BX} {D : va_G} {cy : Nat → ClassId} {b : Nat} {r : Option Value} {μ' : MS} (hB : BB X D cy b yX8_findButton cX8_findButton 4 (some .int) rmX8_findButton)  {μ : MS} {z : (Int32 × MS)} (hf : f_X8_findButton_36  μ = some z) (hk : (fun z : Int32 × MS => r = some (.int z.1) ∧ μ' = z.2) z) : WW X D cy b r μ' 4 0 0 36 [] [] μ := by
  unfold f_X8_findButton_36 at hf
  refine r_bipush hB (v := (-9)) (by decide +kernel : decode cX8_findButton 36 = .ok (.bipush (-9), 2)) (by decide +kernel) ?_
  obtain rfl := Option.some.inj hf
  obtain ⟨rfl, rfl⟩ := hk
  exact r_iret hB (by decide +kernel : decode cX8_findButton 38 = .ok (.ireturn, 1))
set_option maxHeartbeats 4000000 in
set_option maxRecDepth 100000 in
theorem t_X8_findButton_28 {X : BX} {D : va_G} {cy : Nat → ClassId} {b : Nat} {r : Option Value} {μ' : MS} (hB : BB X D cy b yX8_findButton cX8_findButton 4 (some .int) rmX8_findButton) {l3 : Int32} {μ : MS} {z : (Int32 × MS)} (hf : f_X8_findButton_28 l3 μ = some z) (hk : (fun z : Int32 × MS => r = some (.int z.1) ∧ μ' = z.2) z) : WW X D cy b r μ' 4 0 0 28 [(3, .int l3)] [] μ := by
  unfold f_X8_findButton_28 at hf
  refine r_iload_n hB 0 rfl (by decide +kernel : decode cX8_findButton 28 = .ok (.iload_n 3, 1)) rfl ?_
  obtain rfl := Option.some.inj hf
  obtain ⟨rfl, rfl⟩ := hk
  exact r_iret hB (by decide +kernel : decode cX8_findButton 29 = .ok (.ireturn, 1))
set_option maxHeartbeats 4000000 in
set_option maxRecDepth 100000 in
theorem t_X8_findButton_30 {X : BX} {D : va_G} {cy : Nat → ClassId} {b : Nat} {r : Option Value} {μ' : MS} (hB : BB X D cy b yX8_findButton cX8_findButton 4 (some .int) rmX8_findButton) {l0 : Nat} {l1 : Int32} {l2 : Int32} {l3 : Int32} {μ : MS} {z : ((Nat × Int32 × Int32 × Int32 × MS) ⊕ (Int32 × MS))} (hf : f_X8_findButton_30 l0 l1 l2 l3 μ = some z) (hk : (Sum.elim (fun s : Nat × Int32 × Int32 × Int32 × MS => WW X D cy b r μ' 4 0 0 2 [(0, .ref (b + s.1)), (1, .int s.2.1), (2, .int s.2.2.1), (3, .int s.2.2.2.1)] [] s.2.2.2.2) (fun z : Int32 × MS => r = some (.int z.1) ∧ μ' = z.2)) z) : WW X D cy b r μ' 4 0 0 30 [(0, .ref (b + l0)), (1, .int l1), (2, .int l2), (3, .int l3)] [] μ := by
  unfold f_X8_findButton_30 at hf
  refine r_iincB hB 3 rfl (by decide +kernel : decode cX8_findButton 30 = .ok (.iinc 3 1, 3)) (w := 1) (by decide +kernel) (by decide) hf (fun v30 hf => ?_)
  refine ww_lv (lv' := [(3, .int v30), (0, .ref (b + l0)), (1, .int l1), (2, .int l2)]) rfl ?_
  refine r_goto hB (tgt := 2) (by decide +kernel : decode cX8_findButton 33 = .ok (.goto (-31), 3)) (by decide) ?_
  obtain rfl := Option.some.inj hf
  exact WW.sub [1, 2, 3, 0] rfl hk
set_option maxHeartbeats 4000000 in
set_option maxRecDepth 100000 in
theorem t_X8_findButton_2_b {X : BX} {D : va_G} {cy : Nat → ClassId} {b : Nat} {r : Option Value} {μ' : MS} (hB : BB X D cy b yX8_findButton cX8_findButton 4 (some .int) rmX8_findButton) {l0 : Nat} {l1 : Int32} {l2 : Int32} {l3 : Int32} {μ : MS} {z : ((Nat × Int32 × Int32 × Int32 × MS) ⊕ (Int32 × MS))} (hf : f_X8_findButton_2_b l0 l1 l2 l3 μ = some z) (hk : (Sum.elim (fun s : Nat × Int32 × Int32 × Int32 × MS => WW X D cy b r μ' 4 0 0 2 [(0, .ref (b + s.1)), (1, .int s.2.1), (2, .int s.2.2.1), (3, .int s.2.2.2.1)] [] s.2.2.2.2) (fun z : Int32 × MS => r = some (.int z.1) ∧ μ' = z.2)) z) : WW X D cy b r μ' 4 0 0 2 [(0, .ref (b + l0)), (1, .int l1), (2, .int l2), (3, .int l3)] [] μ := by
  unfold f_X8_findButton_2_b at hf
  refine r_iload_n hB 3 rfl (by decide +kernel : decode cX8_findButton 2 = .ok (.iload_n 3, 1)) rfl ?_
  refine r_aload_n hB 0 rfl (by decide +kernel : decode cX8_findButton 3 = .ok (.aload_n 0, 1)) rfl ?_
  refine r_gI hB cf8 4 (by decide) (own := "PulseRemote$Table") rfl (Or.inl k_116) (by decide +kernel) (by decide +kernel : decode cX8_findButton 4 = .ok (.getfield 39, 3)) hf (fun x4 hf => ?_)
  refine r_icmp_ge hB (tgt := 36) (by decide +kernel : decode cX8_findButton 7 = .ok (.if_icmp .ge 29, 3)) (by decide) hf (fun _ hf => ?_) (fun _ hf => ?_)
  · obtain ⟨_, hx0, rfl⟩ := xr_inv hf
    exact WW.sub [] rfl (t_X8_findButton_36 hB hx0 hk)
  · refine r_aload_n hB 0 rfl (by decide +kernel : decode cX8_findButton 10 = .ok (.aload_n 0, 1)) rfl ?_
    refine r_iload_n hB 3 rfl (by decide +kernel : decode cX8_findButton 11 = .ok (.iload_n 3, 1)) rfl ?_
    refine r_cVi hB [.int l3] [] cf8 (own := "PulseRemote$Table") rfl cmX8_protocolOfButton imX8_protocolOfButton (Or.inl k_670) (by decide) rfl rfl rfl (Nat.le_of_ble_eq_true rfl) (by decide +kernel : decode cX8_findButton 12 = .ok (.invokevirtual 58, 3)) (fun z hz => m_X8_protocolOfButton _ _ _ _ hz) rfl hf (fun z12 hf => ?_)
    refine r_iload_n hB 1 rfl (by decide +kernel : decode cX8_findButton 15 = .ok (.iload_n 1, 1)) rfl ?_
    refine r_icmp_ne hB (tgt := 30) (by decide +kernel : decode cX8_findButton 16 = .ok (.if_icmp .ne 14, 3)) (by decide) hf (fun _ hf => ?_) (fun _ hf => ?_)
    · refine r_aload_n hB 0 rfl (by decide +kernel : decode cX8_findButton 19 = .ok (.aload_n 0, 1)) rfl ?_
      refine r_iload_n hB 3 rfl (by decide +kernel : decode cX8_findButton 20 = .ok (.iload_n 3, 1)) rfl ?_
      refine r_cVi hB [.int l3] [] cf8 (own := "PulseRemote$Table") rfl cmX8_identityOfButton imX8_identityOfButton (Or.inl k_678) (by decide) rfl rfl rfl (Nat.le_of_ble_eq_true rfl) (by decide +kernel : decode cX8_findButton 21 = .ok (.invokevirtual 62, 3)) (fun z hz => m_X8_identityOfButton _ _ _ _ hz) rfl hf (fun z21 hf => ?_)
      refine r_iload_n hB 2 rfl (by decide +kernel : decode cX8_findButton 24 = .ok (.iload_n 2, 1)) rfl ?_
      refine r_icmp_ne hB (tgt := 30) (by decide +kernel : decode cX8_findButton 25 = .ok (.if_icmp .ne 5, 3)) (by decide) hf (fun _ hf => ?_) (fun _ hf => ?_)
      · obtain ⟨_, hx0, rfl⟩ := xr_inv hf
        exact WW.sub [3] rfl (t_X8_findButton_28 hB hx0 hk)
      · exact WW.sub [0, 1, 2, 3] rfl (t_X8_findButton_30 hB hf hk)
    · exact WW.sub [0, 1, 2, 3] rfl (t_X8_findButton_30 hB hf hk)
set_option maxHeartbeats 4000000 in
set_option maxRecDepth 100000 in
theorem t_X8_findButton_2 {X : BX} {D : va_G} {cy : Nat → ClassId} {b : Nat} {r : Option Value} {μ' : MS} (hB : BB X D cy b yX8_findButton cX8_findButton 4 (some .int) rmX8_findButton) {l0 : Nat} {l1 : Int32} {l2 : Int32} {l3 : Int32} {μ : MS} {z : (Int32 × MS)} (hf : f_X8_findButton_2 l0 l1 l2 l3 μ = some z) (hk : (fun z : Int32 × MS => r = some (.int z.1) ∧ μ' = z.2) z) : WW X D cy b r μ' 4 0 0 2 [(0, .ref (b + l0)), (1, .int l1), (2, .int l2), (3, .int l3)] [] μ :=
  lp_ind (P := fun s : Nat × Int32 × Int32 × Int32 × MS => WW X D cy b r μ' 4 0 0 2 [(0, .ref (b + s.1)), (1, .int s.2.1), (2, .int s.2.2.1), (3, .int s.2.2.2.1)] [] s.2.2.2.2) (Q := (fun z : Int32 × MS => r = some (.int z.1) ∧ μ' = z.2)) (fun s z hz hk => t_X8_findButton_2_b hB hz hk) (l0, l1, l2, l3, μ) z hf hk
set_option maxHeartbeats 4000000 in
set_option maxRecDepth 100000 in
theorem t_X8_findButton_0 {X : BX} {D : va_G} {cy : Nat → ClassId} {b : Nat} {r : Option Value} {μ' : MS} (hB : BB X D cy b yX8_findButton cX8_findButton 4 (some .int) rmX8_findButton) {l0 : Nat} {l1 : Int32} {l2 : Int32} {μ : MS} {z : (Int32 × MS)} (hf : f_X8_findButton l0 l1 l2 μ = some z) (hk : (fun z : Int32 × MS => r = some (.int z.1) ∧ μ' = z.2) z) : WW X D cy b r μ' 4 0 0 0 [(0, .ref (b + l0)), (1, .int l1), (2, .int l2)] [] μ := by
  unfold f_X8_findButton at hf
  refine r_iconst hB (v := 0) (by decide +kernel : decode cX8_findButton 0 = .ok (.iconst 0, 1)) (by decide +kernel) ?_
  refine r_istore_n hB (by decide +kernel : decode cX8_findButton 1 = .ok (.istore_n 3, 1)) rfl (by decide) rfl ?_
  refine ww_lv (lv' := [(3, .int 0), (0, .ref (b + l0)), (1, .int l1), (2, .int l2)]) rfl ?_
  exact WW.sub [1, 2, 3, 0] rfl (t_X8_findButton_2 hB hf hk)
theorem m_X8_findButton (l : Launch) (D : va_G) (cy : Nat → ClassId) (b : Nat) {l0 : Nat} {l1 : Int32} {l2 : Int32} {μ : MS} {z : Int32 × MS} (hf : f_X8_findButton l0 l1 l2 μ = some z) : Met l yX8_findButton (.code yX8_findButton cX8_findButton 4 (some .int) :: GW) rmX8_findButton (Pw D cy b [.ref (b + l0), .int l1, .int l2] μ) (Qw D cy b (some (.int z.1)) (z.2)) rmX8_findButton.cells rmX8_findButton.slots (fun q => b ≤ q) :=
  met_of (by decide) (Nat.le_of_ble_eq_true rfl) (fun X hB _ => (t_X8_findButton_0 hB hf ⟨rfl, rfl⟩))
-- PulseRemote$Table.buttonsFull()Z
set_option maxHeartbeats 4000000 in
set_option maxRecDepth 100000 in
theorem t_X8_buttonsFull_0 {X : BX} {D : va_G} {cy : Nat → ClassId} {b : Nat} {r : Option Value} {μ' : MS} (hB : BB X D cy b yX8_buttonsFull cX8_buttonsFull 1 (some .boolean) rmX8_buttonsFull) {l0 : Nat} {μ : MS} {z : (Int32 × MS)} (hf : f_X8_buttonsFull l0 μ = some z) (hk : (fun z : Int32 × MS => r = some (.int z.1) ∧ μ' = z.2) z) : WW X D cy b r μ' 1 0 0 0 [(0, .ref (b + l0))] [] μ := by
  unfold f_X8_buttonsFull at hf
  refine r_aload_n hB 0 rfl (by decide +kernel : decode cX8_buttonsFull 0 = .ok (.aload_n 0, 1)) rfl ?_
  refine r_gI hB cf8 4 (by decide) (own := "PulseRemote$Table") rfl (Or.inl k_116) (by decide +kernel) (by decide +kernel : decode cX8_buttonsFull 1 = .ok (.getfield 39, 3)) hf (fun x1 hf => ?_)
  refine r_bipush hB (v := 12) (by decide +kernel : decode cX8_buttonsFull 4 = .ok (.bipush 12, 2)) (by decide +kernel) ?_
  refine r_icmp_lt hB (tgt := 13) (by decide +kernel : decode cX8_buttonsFull 6 = .ok (.if_icmp .lt 7, 3)) (by decide) hf (fun _ hf => ?_) (fun _ hf => ?_)
  · refine r_iconst hB (v := 0) (by decide +kernel : decode cX8_buttonsFull 13 = .ok (.iconst 0, 1)) (by decide +kernel) ?_
    obtain rfl := Option.some.inj hf
    obtain ⟨rfl, rfl⟩ := hk
    exact r_zret hB (Or.inl rfl) (by decide +kernel : decode cX8_buttonsFull 14 = .ok (.ireturn, 1))
  · refine r_iconst hB (v := 1) (by decide +kernel : decode cX8_buttonsFull 9 = .ok (.iconst 1, 1)) (by decide +kernel) ?_
    refine r_goto hB (tgt := 14) (by decide +kernel : decode cX8_buttonsFull 10 = .ok (.goto 4, 3)) (by decide) ?_
    obtain rfl := Option.some.inj hf
    obtain ⟨rfl, rfl⟩ := hk
    exact r_zret hB (Or.inr rfl) (by decide +kernel : decode cX8_buttonsFull 14 = .ok (.ireturn, 1))
theorem m_X8_buttonsFull (l : Launch) (D : va_G) (cy : Nat → ClassId) (b : Nat) {l0 : Nat} {μ : MS} {z : Int32 × MS} (hf : f_X8_buttonsFull l0 μ = some z) : Met l yX8_buttonsFull (.code yX8_buttonsFull cX8_buttonsFull 1 (some .boolean) :: GW) rmX8_buttonsFull (Pw D cy b [.ref (b + l0)] μ) (Qw D cy b (some (.int z.1)) (z.2)) rmX8_buttonsFull.cells rmX8_buttonsFull.slots (fun q => b ≤ q) :=
  met_of (by decide) (Nat.le_of_ble_eq_true rfl) (fun X hB _ => (t_X8_buttonsFull_0 hB hf ⟨rfl, rfl⟩))
-- PulseRemote$Table.newButton(II)I
set_option maxHeartbeats 4000000 in
set_option maxRecDepth 100000 in
theorem t_X8_newButton_47 {X : BX} {D : va_G} {cy : Nat → ClassId} {b : Nat} {r : Option Value} {μ' : MS} (hB : BB X D cy b yX8_newButton cX8_newButton 3 (some .int) rmX8_newButton) {l0 : Nat} {μ : MS} {z : (Int32 × MS)} (hf : f_X8_newButton_47 l0 μ = some z) (hk : (fun z : Int32 × MS => r = some (.int z.1) ∧ μ' = z.2) z) : WW X D cy b r μ' 3 0 0 47 [(0, .ref (b + l0))] [] μ := by
  unfold f_X8_newButton_47 at hf
  refine r_aload_n hB 0 rfl (by decide +kernel : decode cX8_newButton 47 = .ok (.aload_n 0, 1)) rfl ?_
  refine r_gI hB cf8 4 (by decide) (own := "PulseRemote$Table") rfl (Or.inl k_116) (by decide +kernel) (by decide +kernel : decode cX8_newButton 48 = .ok (.getfield 39, 3)) hf (fun x48 hf => ?_)
  refine r_iconst hB (v := 1) (by decide +kernel : decode cX8_newButton 51 = .ok (.iconst 1, 1)) (by decide +kernel) ?_
  refine r_isub hB (by decide +kernel : decode cX8_newButton 52 = .ok (.isub, 1)) ?_
  obtain rfl := Option.some.inj hf
  obtain ⟨rfl, rfl⟩ := hk
  exact r_iret hB (by decide +kernel : decode cX8_newButton 53 = .ok (.ireturn, 1))
set_option maxHeartbeats 4000000 in
set_option maxRecDepth 100000 in
theorem t_X8_newButton_0 {X : BX} {D : va_G} {cy : Nat → ClassId} {b : Nat} {r : Option Value} {μ' : MS} (hB : BB X D cy b yX8_newButton cX8_newButton 3 (some .int) rmX8_newButton) {l0 : Nat} {l1 : Int32} {l2 : Int32} {μ : MS} {z : (Int32 × MS)} (hf : f_X8_newButton l0 l1 l2 μ = some z) (hk : (fun z : Int32 × MS => r = some (.int z.1) ∧ μ' = z.2) z) : WW X D cy b r μ' 3 0 0 0 [(0, .ref (b + l0)), (1, .int l1), (2, .int l2)] [] μ := by
  unfold f_X8_newButton at hf
  refine r_aload_n hB 0 rfl (by decide +kernel : decode cX8_newButton 0 = .ok (.aload_n 0, 1)) rfl ?_
  refine r_dup hB (by decide +kernel : decode cX8_newButton 1 = .ok (.dup, 1)) rfl ?_
  refine r_gI hB cf8 4 (by decide) (own := "PulseRemote$Table") rfl (Or.inl k_116) (by decide +kernel) (by decide +kernel : decode cX8_newButton 2 = .ok (.getfield 39, 3)) hf (fun x2 hf => ?_)
  refine r_iconst hB (v := 1) (by decide +kernel : decode cX8_newButton 5 = .ok (.iconst 1, 1)) (by decide +kernel) ?_
  refine r_iadd hB (by decide +kernel : decode cX8_newButton 6 = .ok (.iadd, 1)) ?_
  refine r_pI hB cf8 4 (by decide) (own := "PulseRemote$Table") rfl (Or.inl k_116) (Or.inl rfl) rfl (by decide +kernel : decode cX8_newButton 7 = .ok (.putfield 39, 3)) hf (fun m7 hf => ?_)
  refine r_aload_n hB 0 rfl (by decide +kernel : decode cX8_newButton 10 = .ok (.aload_n 0, 1)) rfl ?_
  refine r_aload_n hB 0 rfl (by decide +kernel : decode cX8_newButton 11 = .ok (.aload_n 0, 1)) rfl ?_
  refine r_gI hB cf8 4 (by decide) (own := "PulseRemote$Table") rfl (Or.inl k_116) (by decide +kernel) (by decide +kernel : decode cX8_newButton 12 = .ok (.getfield 39, 3)) hf (fun x12 hf => ?_)
  refine r_iconst hB (v := 1) (by decide +kernel : decode cX8_newButton 15 = .ok (.iconst 1, 1)) (by decide +kernel) ?_
  refine r_isub hB (by decide +kernel : decode cX8_newButton 16 = .ok (.isub, 1)) ?_
  refine r_cVi hB [.int (x12 - 1)] [] cf8 (own := "PulseRemote$Table") rfl cmX8_hasButton imX8_hasButton (Or.inl k_674) (by decide) rfl rfl rfl (Nat.le_of_ble_eq_true rfl) (by decide +kernel : decode cX8_newButton 17 = .ok (.invokevirtual 54, 3)) (fun z hz => m_X8_hasButton _ _ _ _ hz) rfl hf (fun z17 hf => ?_)
  refine r_if_eq hB (tgt := 47) (by decide +kernel : decode cX8_newButton 20 = .ok (.ifCond .eq 27, 3)) (by decide) hf (fun _ hf => ?_) (fun _ hf => ?_)
  · exact WW.sub [0] rfl (t_X8_newButton_47 hB hf hk)
  · refine r_aload_n hB 0 rfl (by decide +kernel : decode cX8_newButton 23 = .ok (.aload_n 0, 1)) rfl ?_
    refine r_gR hB cf8 2 (by decide) (own := "PulseRemote$Table") rfl (Or.inl k_114) (by decide +kernel) (by decide +kernel : decode cX8_newButton 24 = .ok (.getfield 17, 3)) hf (fun x24 hf => ?_)
    refine r_aload_n hB 0 rfl (by decide +kernel : decode cX8_newButton 27 = .ok (.aload_n 0, 1)) rfl ?_
    refine r_gI hB cf8 4 (by decide) (own := "PulseRemote$Table") rfl (Or.inl k_116) (by decide +kernel) (by decide +kernel : decode cX8_newButton 28 = .ok (.getfield 39, 3)) hf (fun x28 hf => ?_)
    refine r_iconst hB (v := 1) (by decide +kernel : decode cX8_newButton 31 = .ok (.iconst 1, 1)) (by decide +kernel) ?_
    refine r_isub hB (by decide +kernel : decode cX8_newButton 32 = .ok (.isub, 1)) ?_
    refine r_iload_n hB 1 rfl (by decide +kernel : decode cX8_newButton 33 = .ok (.iload_n 1, 1)) rfl ?_
    refine r_iast hB (by decide +kernel : decode cX8_newButton 34 = .ok (.iastore, 1)) hf (fun m34 hf => ?_)
    refine r_aload_n hB 0 rfl (by decide +kernel : decode cX8_newButton 35 = .ok (.aload_n 0, 1)) rfl ?_
    refine r_gR hB cf8 3 (by decide) (own := "PulseRemote$Table") rfl (Or.inl k_115) (by decide +kernel) (by decide +kernel : decode cX8_newButton 36 = .ok (.getfield 21, 3)) hf (fun x36 hf => ?_)
    refine r_aload_n hB 0 rfl (by decide +kernel : decode cX8_newButton 39 = .ok (.aload_n 0, 1)) rfl ?_
    refine r_gI hB cf8 4 (by decide) (own := "PulseRemote$Table") rfl (Or.inl k_116) (by decide +kernel) (by decide +kernel : decode cX8_newButton 40 = .ok (.getfield 39, 3)) hf (fun x40 hf => ?_)
    refine r_iconst hB (v := 1) (by decide +kernel : decode cX8_newButton 43 = .ok (.iconst 1, 1)) (by decide +kernel) ?_
    refine r_isub hB (by decide +kernel : decode cX8_newButton 44 = .ok (.isub, 1)) ?_
    refine r_iload_n hB 2 rfl (by decide +kernel : decode cX8_newButton 45 = .ok (.iload_n 2, 1)) rfl ?_
    refine r_iast hB (by decide +kernel : decode cX8_newButton 46 = .ok (.iastore, 1)) hf (fun m46 hf => ?_)
    exact WW.sub [0] rfl (t_X8_newButton_47 hB hf hk)
theorem m_X8_newButton (l : Launch) (D : va_G) (cy : Nat → ClassId) (b : Nat) {l0 : Nat} {l1 : Int32} {l2 : Int32} {μ : MS} {z : Int32 × MS} (hf : f_X8_newButton l0 l1 l2 μ = some z) : Met l yX8_newButton (.code yX8_newButton cX8_newButton 3 (some .int) :: GW) rmX8_newButton (Pw D cy b [.ref (b + l0), .int l1, .int l2] μ) (Qw D cy b (some (.int z.1)) (z.2)) rmX8_newButton.cells rmX8_newButton.slots (fun q => b ≤ q) :=
  met_of (by decide) (Nat.le_of_ble_eq_true rfl) (fun X hB _ => (t_X8_newButton_0 hB hf ⟨rfl, rfl⟩))
-- PulseRemote.addButton(II)I
set_option maxHeartbeats 4000000 in
set_option maxRecDepth 100000 in
theorem t_X11_addButton_0 {X : BX} {D : va_G} {cy : Nat → ClassId} {b : Nat} {r : Option Value} {μ' : MS} (hB : BB X D cy b yX11_addButton cX11_addButton 5 (some .int) rmX11_addButton) {l0 : Nat} {l1 : Int32} {l2 : Int32} {μ : MS} {z : (Int32 × MS)} (hf : f_X11_addButton l0 l1 l2 μ = some z) (hk : (fun z : Int32 × MS => r = some (.int z.1) ∧ μ' = z.2) z) : WW X D cy b r μ' 5 0 0 0 [(0, .ref (b + l0)), (1, .int l1), (2, .int l2)] [] μ := by
  unfold f_X11_addButton at hf
  refine r_aload_n hB 0 rfl (by decide +kernel : decode cX11_addButton 0 = .ok (.aload_n 0, 1)) rfl ?_
  refine r_gR hB cf11 0 (by decide) (own := "PulseRemote") rfl (Or.inl k_395) (by decide +kernel) (by decide +kernel : decode cX11_addButton 1 = .ok (.getfield 12, 3)) hf (fun x1 hf => ?_)
  refine r_gR hB cf7 0 (by decide) (own := "PulseRemote") rfl (Or.inr ⟨_, k_150⟩) (by decide +kernel) (by decide +kernel : decode cX11_addButton 4 = .ok (.getfield 84, 3)) hf (fun x4 hf => ?_)
  refine r_astore_n hB (by decide +kernel : decode cX11_addButton 7 = .ok (.astore_n 3, 1)) rfl (by decide) rfl ?_
  refine ww_lv (lv' := [(3, .ref (b + x4)), (0, .ref (b + l0)), (1, .int l1), (2, .int l2)]) rfl ?_
  refine r_aload_n hB 0 rfl (by decide +kernel : decode cX11_addButton 8 = .ok (.aload_n 3, 1)) rfl ?_
  refine r_iload_n hB 2 rfl (by decide +kernel : decode cX11_addButton 9 = .ok (.iload_n 1, 1)) rfl ?_
  refine r_cVi hB [.int l1] [] cf8 (own := "PulseRemote") rfl cmX8_hasProtocol imX8_hasProtocol (Or.inl k_729) (by decide) rfl rfl rfl (Nat.le_of_ble_eq_true rfl) (by decide +kernel : decode cX11_addButton 10 = .ok (.invokevirtual 98, 3)) (fun z hz => m_X8_hasProtocol _ _ _ _ hz) rfl hf (fun z10 hf => ?_)
  refine r_if_eq hB (tgt := 28) (by decide +kernel : decode cX11_addButton 13 = .ok (.ifCond .eq 15, 3)) (by decide) hf (fun _ hf => ?_) (fun _ hf => ?_)
  · refine r_iconst hB (v := (-1)) (by decide +kernel : decode cX11_addButton 28 = .ok (.iconst (-1), 1)) (by decide +kernel) ?_
    obtain rfl := Option.some.inj hf
    obtain ⟨rfl, rfl⟩ := hk
    exact r_iret hB (by decide +kernel : decode cX11_addButton 29 = .ok (.ireturn, 1))
  · refine r_aload_n hB 0 rfl (by decide +kernel : decode cX11_addButton 16 = .ok (.aload_n 3, 1)) rfl ?_
    refine r_iload_n hB 2 rfl (by decide +kernel : decode cX11_addButton 17 = .ok (.iload_n 1, 1)) rfl ?_
    refine r_cVr hB [.int l1] [] cf8 (own := "PulseRemote") rfl cmX8_protocolAt imX8_protocolAt (Or.inl k_588) (by decide) rfl rfl rfl (Nat.le_of_ble_eq_true rfl) (by decide +kernel : decode cX11_addButton 18 = .ok (.invokevirtual 102, 3)) (fun z hz => m_X8_protocolAt _ _ _ _ hz) rfl hf (fun z18 hf => ?_)
    refine r_iload_n hB 3 rfl (by decide +kernel : decode cX11_addButton 21 = .ok (.iload_n 2, 1)) rfl ?_
    refine r_cVi hB [.int l2] [] cf6 (own := "PulseRemote") rfl cmX6_hasCode imX6_hasCode (Or.inl k_774) (by decide) rfl rfl rfl (Nat.le_of_ble_eq_true rfl) (by decide +kernel : decode cX11_addButton 22 = .ok (.invokevirtual 196, 3)) (fun z hz => m_X6_hasCode _ _ _ _ hz) rfl hf (fun z22 hf => ?_)
    refine r_if_ne hB (tgt := 30) (by decide +kernel : decode cX11_addButton 25 = .ok (.ifCond .ne 5, 3)) (by decide) hf (fun _ hf => ?_) (fun _ hf => ?_)
    · refine r_iconst hB (v := (-1)) (by decide +kernel : decode cX11_addButton 28 = .ok (.iconst (-1), 1)) (by decide +kernel) ?_
      obtain rfl := Option.some.inj hf
      obtain ⟨rfl, rfl⟩ := hk
      exact r_iret hB (by decide +kernel : decode cX11_addButton 29 = .ok (.ireturn, 1))
    · refine r_aload_n hB 0 rfl (by decide +kernel : decode cX11_addButton 30 = .ok (.aload_n 3, 1)) rfl ?_
      refine r_iload_n hB 2 rfl (by decide +kernel : decode cX11_addButton 31 = .ok (.iload_n 1, 1)) rfl ?_
      refine r_cVr hB [.int l1] [] cf8 (own := "PulseRemote") rfl cmX8_protocolAt imX8_protocolAt (Or.inl k_588) (by decide) rfl rfl rfl (Nat.le_of_ble_eq_true rfl) (by decide +kernel : decode cX11_addButton 32 = .ok (.invokevirtual 102, 3)) (fun z hz => m_X8_protocolAt _ _ _ _ hz) rfl hf (fun z32 hf => ?_)
      refine r_iload_n hB 3 rfl (by decide +kernel : decode cX11_addButton 35 = .ok (.iload_n 2, 1)) rfl ?_
      refine r_cVi hB [.int l2] [] cf6 (own := "PulseRemote") rfl cmX6_identityOf imX6_identityOf (Or.inl k_778) (by decide) rfl rfl rfl (Nat.le_of_ble_eq_true rfl) (by decide +kernel : decode cX11_addButton 36 = .ok (.invokevirtual 199, 3)) (fun z hz => m_X6_identityOf _ _ _ _ hz) rfl hf (fun z36 hf => ?_)
      refine r_istore hB (by decide +kernel : decode cX11_addButton 39 = .ok (.istore 4, 2)) (by decide) rfl ?_
      refine ww_lv (lv' := [(4, .int z36.1), (3, .ref (b + x4)), (0, .ref (b + l0)), (1, .int l1), (2, .int l2)]) rfl ?_
      refine r_aload_n hB 1 rfl (by decide +kernel : decode cX11_addButton 41 = .ok (.aload_n 3, 1)) rfl ?_
      refine r_iload_n hB 3 rfl (by decide +kernel : decode cX11_addButton 42 = .ok (.iload_n 1, 1)) rfl ?_
      refine r_iload hB 0 rfl (by decide +kernel : decode cX11_addButton 43 = .ok (.iload 4, 2)) ?_
      refine r_cVi hB [.int l1, .int z36.1] [] cf8 (own := "PulseRemote") rfl cmX8_findButton imX8_findButton (Or.inl k_779) (by decide) rfl rfl rfl (Nat.le_of_ble_eq_true rfl) (by decide +kernel : decode cX11_addButton 45 = .ok (.invokevirtual 203, 3)) (fun z hz => m_X8_findButton _ _ _ _ hz) rfl hf (fun z45 hf => ?_)
      refine r_bipush hB (v := (-9)) (by decide +kernel : decode cX11_addButton 48 = .ok (.bipush (-9), 2)) (by decide +kernel) ?_
      refine r_icmp_eq hB (tgt := 56) (by decide +kernel : decode cX11_addButton 50 = .ok (.if_icmp .eq 6, 3)) (by decide) hf (fun _ hf => ?_) (fun _ hf => ?_)
      · refine r_aload_n hB 1 rfl (by decide +kernel : decode cX11_addButton 56 = .ok (.aload_n 3, 1)) rfl ?_
        refine r_cVi hB [] [] cf8 (own := "PulseRemote") rfl cmX8_buttonsFull imX8_buttonsFull (Or.inl k_780) (by decide) rfl rfl rfl (Nat.le_of_ble_eq_true rfl) (by decide +kernel : decode cX11_addButton 57 = .ok (.invokevirtual 207, 3)) (fun z hz => m_X8_buttonsFull _ _ _ _ hz) rfl hf (fun z57 hf => ?_)
        refine r_if_eq hB (tgt := 66) (by decide +kernel : decode cX11_addButton 60 = .ok (.ifCond .eq 6, 3)) (by decide) hf (fun _ hf => ?_) (fun _ hf => ?_)
        · refine r_aload_n hB 2 rfl (by decide +kernel : decode cX11_addButton 66 = .ok (.aload_n 0, 1)) rfl ?_
          refine r_cVv hB [] [] cf11 (own := "PulseRemote") rfl cmX11_saveState imX11_saveState (Or.inl k_443) (by decide) rfl rfl rfl (Nat.le_of_ble_eq_true rfl) (by decide +kernel : decode cX11_addButton 67 = .ok (.invokevirtual 91, 3)) (fun z hz => m_X11_saveState _ _ _ _ hz) rfl hf (fun z67 hf => ?_)
          refine r_aload_n hB 1 rfl (by decide +kernel : decode cX11_addButton 70 = .ok (.aload_n 3, 1)) rfl ?_
          refine r_iload_n hB 3 rfl (by decide +kernel : decode cX11_addButton 71 = .ok (.iload_n 1, 1)) rfl ?_
          refine r_iload hB 0 rfl (by decide +kernel : decode cX11_addButton 72 = .ok (.iload 4, 2)) ?_
          refine r_cVi hB [.int l1, .int z36.1] [] cf8 (own := "PulseRemote") rfl cmX8_newButton imX8_newButton (Or.inl k_784) (by decide) rfl rfl rfl (Nat.le_of_ble_eq_true rfl) (by decide +kernel : decode cX11_addButton 74 = .ok (.invokevirtual 210, 3)) (fun z hz => m_X8_newButton _ _ _ _ hz) rfl hf (fun z74 hf => ?_)
          obtain rfl := Option.some.inj hf
          obtain ⟨rfl, rfl⟩ := hk
          exact r_iret hB (by decide +kernel : decode cX11_addButton 77 = .ok (.ireturn, 1))
        · refine r_bipush hB (v := (-3)) (by decide +kernel : decode cX11_addButton 63 = .ok (.bipush (-3), 2)) (by decide +kernel) ?_
          obtain rfl := Option.some.inj hf
          obtain ⟨rfl, rfl⟩ := hk
          exact r_iret hB (by decide +kernel : decode cX11_addButton 65 = .ok (.ireturn, 1))
      · refine r_bipush hB (v := (-2)) (by decide +kernel : decode cX11_addButton 53 = .ok (.bipush (-2), 2)) (by decide +kernel) ?_
        obtain rfl := Option.some.inj hf
        obtain ⟨rfl, rfl⟩ := hk
        exact r_iret hB (by decide +kernel : decode cX11_addButton 55 = .ok (.ireturn, 1))
theorem m_X11_addButton (l : Launch) (D : va_G) (cy : Nat → ClassId) (b : Nat) {l0 : Nat} {l1 : Int32} {l2 : Int32} {μ : MS} {z : Int32 × MS} (hf : f_X11_addButton l0 l1 l2 μ = some z) : Met l yX11_addButton (.code yX11_addButton cX11_addButton 5 (some .int) :: GW) rmX11_addButton (Pw D cy b [.ref (b + l0), .int l1, .int l2] μ) (Qw D cy b (some (.int z.1)) (z.2)) rmX11_addButton.cells rmX11_addButton.slots (fun q => b ≤ q) :=
  met_of (by decide) (Nat.le_of_ble_eq_true rfl) (fun X hB _ => (t_X11_addButton_0 hB hf ⟨rfl, rfl⟩))
-- PulseRemote.button(II)I
set_option maxHeartbeats 4000000 in
set_option maxRecDepth 100000 in
theorem t_X11_button_0 {X : BX} {D : va_G} {cy : Nat → ClassId} {b : Nat} {r : Option Value} {μ' : MS} (hB : BB X D cy b yX11_button cX11_button 3 (some .int) rmX11_button) {l0 : Nat} {l1 : Int32} {l2 : Int32} {μ : MS} {z : (Int32 × MS)} (hf : f_X11_button l0 l1 l2 μ = some z) (hk : (fun z : Int32 × MS => r = some (.int z.1) ∧ μ' = z.2) z) : WW X D cy b r μ' 3 0 0 0 [(0, .ref (b + l0)), (1, .int l1), (2, .int l2)] [] μ := by
  unfold f_X11_button at hf
  refine r_aload_n hB 0 rfl (by decide +kernel : decode cX11_button 0 = .ok (.aload_n 0, 1)) rfl ?_
  refine r_gR hB cf11 0 (by decide) (own := "PulseRemote") rfl (Or.inl k_395) (by decide +kernel) (by decide +kernel : decode cX11_button 1 = .ok (.getfield 12, 3)) hf (fun x1 hf => ?_)
  refine r_gR hB cf7 0 (by decide) (own := "PulseRemote") rfl (Or.inr ⟨_, k_150⟩) (by decide +kernel) (by decide +kernel : decode cX11_button 4 = .ok (.getfield 84, 3)) hf (fun x4 hf => ?_)
  refine r_iload_n hB 1 rfl (by decide +kernel : decode cX11_button 7 = .ok (.iload_n 1, 1)) rfl ?_
  refine r_cVi hB [.int l1] [] cf8 (own := "PulseRemote") rfl cmX8_hasButton imX8_hasButton (Or.inl k_738) (by decide) rfl rfl rfl (Nat.le_of_ble_eq_true rfl) (by decide +kernel : decode cX11_button 8 = .ok (.invokevirtual 213, 3)) (fun z hz => m_X8_hasButton _ _ _ _ hz) rfl hf (fun z8 hf => ?_)
  refine r_if_eq hB (tgt := 23) (by decide +kernel : decode cX11_button 11 = .ok (.ifCond .eq 12, 3)) (by decide) hf (fun _ hf => ?_) (fun _ hf => ?_)
  · refine r_iconst hB (v := (-1)) (by decide +kernel : decode cX11_button 23 = .ok (.iconst (-1), 1)) (by decide +kernel) ?_
    obtain rfl := Option.some.inj hf
    obtain ⟨rfl, rfl⟩ := hk
    exact r_iret hB (by decide +kernel : decode cX11_button 24 = .ok (.ireturn, 1))
  · refine r_iload_n hB 2 rfl (by decide +kernel : decode cX11_button 14 = .ok (.iload_n 2, 1)) rfl ?_
    refine r_iconst hB (v := 0) (by decide +kernel : decode cX11_button 15 = .ok (.iconst 0, 1)) (by decide +kernel) ?_
    refine r_iconst hB (v := 1) (by decide +kernel : decode cX11_button 16 = .ok (.iconst 1, 1)) (by decide +kernel) ?_
    refine r_cSi hB [.int l2, .int 0, .int 1] [] (own := "PulseRemote") rfl cmX11_inRange smX11_inRange (Or.inl ⟨rfl, k_440⟩) (by decide) rfl rfl rfl (Nat.le_of_ble_eq_true rfl) (by decide +kernel : decode cX11_button 17 = .ok (.invokestatic 80, 3)) (fun z hz => m_X11_inRange _ _ _ _ hz) rfl hf (fun z17 hf => ?_)
    refine r_if_ne hB (tgt := 25) (by decide +kernel : decode cX11_button 20 = .ok (.ifCond .ne 5, 3)) (by decide) hf (fun _ hf => ?_) (fun _ hf => ?_)
    · refine r_iconst hB (v := (-1)) (by decide +kernel : decode cX11_button 23 = .ok (.iconst (-1), 1)) (by decide +kernel) ?_
      obtain rfl := Option.some.inj hf
      obtain ⟨rfl, rfl⟩ := hk
      exact r_iret hB (by decide +kernel : decode cX11_button 24 = .ok (.ireturn, 1))
    · refine r_iload_n hB 2 rfl (by decide +kernel : decode cX11_button 25 = .ok (.iload_n 2, 1)) rfl ?_
      refine r_if_ne hB (tgt := 43) (by decide +kernel : decode cX11_button 26 = .ok (.ifCond .ne 17, 3)) (by decide) hf (fun _ hf => ?_) (fun _ hf => ?_)
      · refine r_aload_n hB 0 rfl (by decide +kernel : decode cX11_button 29 = .ok (.aload_n 0, 1)) rfl ?_
        refine r_gR hB cf11 0 (by decide) (own := "PulseRemote") rfl (Or.inl k_395) (by decide +kernel) (by decide +kernel : decode cX11_button 30 = .ok (.getfield 12, 3)) hf (fun x30 hf => ?_)
        refine r_gR hB cf7 0 (by decide) (own := "PulseRemote") rfl (Or.inr ⟨_, k_150⟩) (by decide +kernel) (by decide +kernel : decode cX11_button 33 = .ok (.getfield 84, 3)) hf (fun x33 hf => ?_)
        refine r_iload_n hB 1 rfl (by decide +kernel : decode cX11_button 36 = .ok (.iload_n 1, 1)) rfl ?_
        refine r_cVi hB [.int l1] [] cf8 (own := "PulseRemote") rfl cmX8_protocolOfButton imX8_protocolOfButton (Or.inl k_739) (by decide) rfl rfl rfl (Nat.le_of_ble_eq_true rfl) (by decide +kernel : decode cX11_button 37 = .ok (.invokevirtual 216, 3)) (fun z hz => m_X8_protocolOfButton _ _ _ _ hz) rfl hf (fun z37 hf => ?_)
        refine r_goto hB (tgt := 54) (by decide +kernel : decode cX11_button 40 = .ok (.goto 14, 3)) (by decide) ?_
        obtain rfl := Option.some.inj hf
        obtain ⟨rfl, rfl⟩ := hk
        exact r_iret hB (by decide +kernel : decode cX11_button 54 = .ok (.ireturn, 1))
      · refine r_aload_n hB 0 rfl (by decide +kernel : decode cX11_button 43 = .ok (.aload_n 0, 1)) rfl ?_
        refine r_gR hB cf11 0 (by decide) (own := "PulseRemote") rfl (Or.inl k_395) (by decide +kernel) (by decide +kernel : decode cX11_button 44 = .ok (.getfield 12, 3)) hf (fun x44 hf => ?_)
        refine r_gR hB cf7 0 (by decide) (own := "PulseRemote") rfl (Or.inr ⟨_, k_150⟩) (by decide +kernel) (by decide +kernel : decode cX11_button 47 = .ok (.getfield 84, 3)) hf (fun x47 hf => ?_)
        refine r_iload_n hB 1 rfl (by decide +kernel : decode cX11_button 50 = .ok (.iload_n 1, 1)) rfl ?_
        refine r_cVi hB [.int l1] [] cf8 (own := "PulseRemote") rfl cmX8_identityOfButton imX8_identityOfButton (Or.inl k_740) (by decide) rfl rfl rfl (Nat.le_of_ble_eq_true rfl) (by decide +kernel : decode cX11_button 51 = .ok (.invokevirtual 219, 3)) (fun z hz => m_X8_identityOfButton _ _ _ _ hz) rfl hf (fun z51 hf => ?_)
        obtain rfl := Option.some.inj hf
        obtain ⟨rfl, rfl⟩ := hk
        exact r_iret hB (by decide +kernel : decode cX11_button 54 = .ok (.ireturn, 1))
theorem m_X11_button (l : Launch) (D : va_G) (cy : Nat → ClassId) (b : Nat) {l0 : Nat} {l1 : Int32} {l2 : Int32} {μ : MS} {z : Int32 × MS} (hf : f_X11_button l0 l1 l2 μ = some z) : Met l yX11_button (.code yX11_button cX11_button 3 (some .int) :: GW) rmX11_button (Pw D cy b [.ref (b + l0), .int l1, .int l2] μ) (Qw D cy b (some (.int z.1)) (z.2)) rmX11_button.cells rmX11_button.slots (fun q => b ≤ q) :=
  met_of (by decide) (Nat.le_of_ble_eq_true rfl) (fun X hB _ => (t_X11_button_0 hB hf ⟨rfl, rfl⟩))
-- PulseRemote.setGap(I)I
set_option maxHeartbeats 4000000 in
set_option maxRecDepth 100000 in
theorem t_X11_setGap_0 {X : BX} {D : va_G} {cy : Nat → ClassId} {b : Nat} {r : Option Value} {μ' : MS} (hB : BB X D cy b yX11_setGap cX11_setGap 3 (some .int) rmX11_setGap) {l0 : Nat} {l1 : Int32} {μ : MS} {z : (Int32 × MS)} (hf : f_X11_setGap l0 l1 μ = some z) (hk : (fun z : Int32 × MS => r = some (.int z.1) ∧ μ' = z.2) z) : WW X D cy b r μ' 3 0 0 0 [(0, .ref (b + l0)), (1, .int l1)] [] μ := by
  unfold f_X11_setGap at hf
  refine r_iload_n hB 1 rfl (by decide +kernel : decode cX11_setGap 0 = .ok (.iload_n 1, 1)) rfl ?_
  refine r_sipush hB (v := 1000) (by decide +kernel : decode cX11_setGap 1 = .ok (.sipush 1000, 3)) (by decide +kernel) ?_
  refine r_ldc hB (v := 60000) (own := "PulseRemote") rfl k_836 (by decide +kernel : decode cX11_setGap 4 = .ok (.ldc 222, 2)) ?_
  refine r_cSi hB [.int l1, .int 1000, .int 60000] [] (own := "PulseRemote") rfl cmX11_inRange smX11_inRange (Or.inl ⟨rfl, k_440⟩) (by decide) rfl rfl rfl (Nat.le_of_ble_eq_true rfl) (by decide +kernel : decode cX11_setGap 6 = .ok (.invokestatic 80, 3)) (fun z hz => m_X11_inRange _ _ _ _ hz) rfl hf (fun z6 hf => ?_)
  refine r_if_ne hB (tgt := 14) (by decide +kernel : decode cX11_setGap 9 = .ok (.ifCond .ne 5, 3)) (by decide) hf (fun _ hf => ?_) (fun _ hf => ?_)
  · refine r_iconst hB (v := (-1)) (by decide +kernel : decode cX11_setGap 12 = .ok (.iconst (-1), 1)) (by decide +kernel) ?_
    obtain rfl := Option.some.inj hf
    obtain ⟨rfl, rfl⟩ := hk
    exact r_iret hB (by decide +kernel : decode cX11_setGap 13 = .ok (.ireturn, 1))
  · refine r_aload_n hB 0 rfl (by decide +kernel : decode cX11_setGap 14 = .ok (.aload_n 0, 1)) rfl ?_
    refine r_cVv hB [] [] cf11 (own := "PulseRemote") rfl cmX11_saveState imX11_saveState (Or.inl k_443) (by decide) rfl rfl rfl (Nat.le_of_ble_eq_true rfl) (by decide +kernel : decode cX11_setGap 15 = .ok (.invokevirtual 91, 3)) (fun z hz => m_X11_saveState _ _ _ _ hz) rfl hf (fun z15 hf => ?_)
    refine r_aload_n hB 0 rfl (by decide +kernel : decode cX11_setGap 18 = .ok (.aload_n 0, 1)) rfl ?_
    refine r_gR hB cf11 0 (by decide) (own := "PulseRemote") rfl (Or.inl k_395) (by decide +kernel) (by decide +kernel : decode cX11_setGap 19 = .ok (.getfield 12, 3)) hf (fun x19 hf => ?_)
    refine r_gI hB cf7 2 (by decide) (own := "PulseRemote") rfl (Or.inr ⟨_, k_154⟩) (by decide +kernel) (by decide +kernel : decode cX11_setGap 22 = .ok (.getfield 163, 3)) hf (fun x22 hf => ?_)
    refine r_istore_n hB (by decide +kernel : decode cX11_setGap 25 = .ok (.istore_n 2, 1)) rfl (by decide) rfl ?_
    refine ww_lv (lv' := [(2, .int x22), (0, .ref (b + l0)), (1, .int l1)]) rfl ?_
    refine r_aload_n hB 1 rfl (by decide +kernel : decode cX11_setGap 26 = .ok (.aload_n 0, 1)) rfl ?_
    refine r_gR hB cf11 0 (by decide) (own := "PulseRemote") rfl (Or.inl k_395) (by decide +kernel) (by decide +kernel : decode cX11_setGap 27 = .ok (.getfield 12, 3)) hf (fun x27 hf => ?_)
    refine r_iload_n hB 2 rfl (by decide +kernel : decode cX11_setGap 30 = .ok (.iload_n 1, 1)) rfl ?_
    refine r_pI hB cf7 2 (by decide) (own := "PulseRemote") rfl (Or.inr ⟨_, k_154⟩) (Or.inl rfl) rfl (by decide +kernel : decode cX11_setGap 31 = .ok (.putfield 163, 3)) hf (fun m31 hf => ?_)
    refine r_iload_n hB 0 rfl (by decide +kernel : decode cX11_setGap 34 = .ok (.iload_n 2, 1)) rfl ?_
    obtain rfl := Option.some.inj hf
    obtain ⟨rfl, rfl⟩ := hk
    exact r_iret hB (by decide +kernel : decode cX11_setGap 35 = .ok (.ireturn, 1))
theorem m_X11_setGap (l : Launch) (D : va_G) (cy : Nat → ClassId) (b : Nat) {l0 : Nat} {l1 : Int32} {μ : MS} {z : Int32 × MS} (hf : f_X11_setGap l0 l1 μ = some z) : Met l yX11_setGap (.code yX11_setGap cX11_setGap 3 (some .int) :: GW) rmX11_setGap (Pw D cy b [.ref (b + l0), .int l1] μ) (Qw D cy b (some (.int z.1)) (z.2)) rmX11_setGap.cells rmX11_setGap.slots (fun q => b ≤ q) :=
  met_of (by decide) (Nat.le_of_ble_eq_true rfl) (fun X hB _ => (t_X11_setGap_0 hB hf ⟨rfl, rfl⟩))
-- PulseRemote.setHold(I)I
set_option maxHeartbeats 4000000 in
set_option maxRecDepth 100000 in
theorem t_X11_setHold_0 {X : BX} {D : va_G} {cy : Nat → ClassId} {b : Nat} {r : Option Value} {μ' : MS} (hB : BB X D cy b yX11_setHold cX11_setHold 3 (some .int) rmX11_setHold) {l0 : Nat} {l1 : Int32} {μ : MS} {z : (Int32 × MS)} (hf : f_X11_setHold l0 l1 μ = some z) (hk : (fun z : Int32 × MS => r = some (.int z.1) ∧ μ' = z.2) z) : WW X D cy b r μ' 3 0 0 0 [(0, .ref (b + l0)), (1, .int l1)] [] μ := by
  unfold f_X11_setHold at hf
  refine r_iload_n hB 1 rfl (by decide +kernel : decode cX11_setHold 0 = .ok (.iload_n 1, 1)) rfl ?_
  refine r_sipush hB (v := 1000) (by decide +kernel : decode cX11_setHold 1 = .ok (.sipush 1000, 3)) (by decide +kernel) ?_
  refine r_ldc hB (v := 60000) (own := "PulseRemote") rfl k_836 (by decide +kernel : decode cX11_setHold 4 = .ok (.ldc 222, 2)) ?_
  refine r_cSi hB [.int l1, .int 1000, .int 60000] [] (own := "PulseRemote") rfl cmX11_inRange smX11_inRange (Or.inl ⟨rfl, k_440⟩) (by decide) rfl rfl rfl (Nat.le_of_ble_eq_true rfl) (by decide +kernel : decode cX11_setHold 6 = .ok (.invokestatic 80, 3)) (fun z hz => m_X11_inRange _ _ _ _ hz) rfl hf (fun z6 hf => ?_)
  refine r_if_ne hB (tgt := 14) (by decide +kernel : decode cX11_setHold 9 = .ok (.ifCond .ne 5, 3)) (by decide) hf (fun _ hf => ?_) (fun _ hf => ?_)
  · refine r_iconst hB (v := (-1)) (by decide +kernel : decode cX11_setHold 12 = .ok (.iconst (-1), 1)) (by decide +kernel) ?_
    obtain rfl := Option.some.inj hf
    obtain ⟨rfl, rfl⟩ := hk
    exact r_iret hB (by decide +kernel : decode cX11_setHold 13 = .ok (.ireturn, 1))
  · refine r_aload_n hB 0 rfl (by decide +kernel : decode cX11_setHold 14 = .ok (.aload_n 0, 1)) rfl ?_
    refine r_cVv hB [] [] cf11 (own := "PulseRemote") rfl cmX11_saveState imX11_saveState (Or.inl k_443) (by decide) rfl rfl rfl (Nat.le_of_ble_eq_true rfl) (by decide +kernel : decode cX11_setHold 15 = .ok (.invokevirtual 91, 3)) (fun z hz => m_X11_saveState _ _ _ _ hz) rfl hf (fun z15 hf => ?_)
    refine r_aload_n hB 0 rfl (by decide +kernel : decode cX11_setHold 18 = .ok (.aload_n 0, 1)) rfl ?_
    refine r_gR hB cf11 0 (by decide) (own := "PulseRemote") rfl (Or.inl k_395) (by decide +kernel) (by decide +kernel : decode cX11_setHold 19 = .ok (.getfield 12, 3)) hf (fun x19 hf => ?_)
    refine r_gI hB cf7 3 (by decide) (own := "PulseRemote") rfl (Or.inr ⟨_, k_157⟩) (by decide +kernel) (by decide +kernel : decode cX11_setHold 22 = .ok (.getfield 223, 3)) hf (fun x22 hf => ?_)
    refine r_istore_n hB (by decide +kernel : decode cX11_setHold 25 = .ok (.istore_n 2, 1)) rfl (by decide) rfl ?_
    refine ww_lv (lv' := [(2, .int x22), (0, .ref (b + l0)), (1, .int l1)]) rfl ?_
    refine r_aload_n hB 1 rfl (by decide +kernel : decode cX11_setHold 26 = .ok (.aload_n 0, 1)) rfl ?_
    refine r_gR hB cf11 0 (by decide) (own := "PulseRemote") rfl (Or.inl k_395) (by decide +kernel) (by decide +kernel : decode cX11_setHold 27 = .ok (.getfield 12, 3)) hf (fun x27 hf => ?_)
    refine r_iload_n hB 2 rfl (by decide +kernel : decode cX11_setHold 30 = .ok (.iload_n 1, 1)) rfl ?_
    refine r_pI hB cf7 3 (by decide) (own := "PulseRemote") rfl (Or.inr ⟨_, k_157⟩) (Or.inl rfl) rfl (by decide +kernel : decode cX11_setHold 31 = .ok (.putfield 223, 3)) hf (fun m31 hf => ?_)
    refine r_iload_n hB 0 rfl (by decide +kernel : decode cX11_setHold 34 = .ok (.iload_n 2, 1)) rfl ?_
    obtain rfl := Option.some.inj hf
    obtain ⟨rfl, rfl⟩ := hk
    exact r_iret hB (by decide +kernel : decode cX11_setHold 35 = .ok (.ireturn, 1))
theorem m_X11_setHold (l : Launch) (D : va_G) (cy : Nat → ClassId) (b : Nat) {l0 : Nat} {l1 : Int32} {μ : MS} {z : Int32 × MS} (hf : f_X11_setHold l0 l1 μ = some z) : Met l yX11_setHold (.code yX11_setHold cX11_setHold 3 (some .int) :: GW) rmX11_setHold (Pw D cy b [.ref (b + l0), .int l1] μ) (Qw D cy b (some (.int z.1)) (z.2)) rmX11_setHold.cells rmX11_setHold.slots (fun q => b ≤ q) :=
  met_of (by decide) (Nat.le_of_ble_eq_true rfl) (fun X hB _ => (t_X11_setHold_0 hB hf ⟨rfl, rfl⟩))
-- PulseRemote.setTolerance(I)I
set_option maxHeartbeats 4000000 in
set_option maxRecDepth 100000 in
theorem t_X11_setTolerance_0 {X : BX} {D : va_G} {cy : Nat → ClassId} {b : Nat} {r : Option Value} {μ' : MS} (hB : BB X D cy b yX11_setTolerance cX11_setTolerance 3 (some .int) rmX11_setTolerance) {l0 : Nat} {l1 : Int32} {μ : MS} {z : (Int32 × MS)} (hf : f_X11_setTolerance l0 l1 μ = some z) (hk : (fun z : Int32 × MS => r = some (.int z.1) ∧ μ' = z.2) z) : WW X D cy b r μ' 3 0 0 0 [(0, .ref (b + l0)), (1, .int l1)] [] μ := by
  unfold f_X11_setTolerance at hf
  refine r_iload_n hB 1 rfl (by decide +kernel : decode cX11_setTolerance 0 = .ok (.iload_n 1, 1)) rfl ?_
  refine r_iconst hB (v := 0) (by decide +kernel : decode cX11_setTolerance 1 = .ok (.iconst 0, 1)) (by decide +kernel) ?_
  refine r_bipush hB (v := 40) (by decide +kernel : decode cX11_setTolerance 2 = .ok (.bipush 40, 2)) (by decide +kernel) ?_
  refine r_cSi hB [.int l1, .int 0, .int 40] [] (own := "PulseRemote") rfl cmX11_inRange smX11_inRange (Or.inl ⟨rfl, k_440⟩) (by decide) rfl rfl rfl (Nat.le_of_ble_eq_true rfl) (by decide +kernel : decode cX11_setTolerance 4 = .ok (.invokestatic 80, 3)) (fun z hz => m_X11_inRange _ _ _ _ hz) rfl hf (fun z4 hf => ?_)
  refine r_if_ne hB (tgt := 12) (by decide +kernel : decode cX11_setTolerance 7 = .ok (.ifCond .ne 5, 3)) (by decide) hf (fun _ hf => ?_) (fun _ hf => ?_)
  · refine r_iconst hB (v := (-1)) (by decide +kernel : decode cX11_setTolerance 10 = .ok (.iconst (-1), 1)) (by decide +kernel) ?_
    obtain rfl := Option.some.inj hf
    obtain ⟨rfl, rfl⟩ := hk
    exact r_iret hB (by decide +kernel : decode cX11_setTolerance 11 = .ok (.ireturn, 1))
  · refine r_aload_n hB 0 rfl (by decide +kernel : decode cX11_setTolerance 12 = .ok (.aload_n 0, 1)) rfl ?_
    refine r_cVv hB [] [] cf11 (own := "PulseRemote") rfl cmX11_saveState imX11_saveState (Or.inl k_443) (by decide) rfl rfl rfl (Nat.le_of_ble_eq_true rfl) (by decide +kernel : decode cX11_setTolerance 13 = .ok (.invokevirtual 91, 3)) (fun z hz => m_X11_saveState _ _ _ _ hz) rfl hf (fun z13 hf => ?_)
    refine r_aload_n hB 0 rfl (by decide +kernel : decode cX11_setTolerance 16 = .ok (.aload_n 0, 1)) rfl ?_
    refine r_gR hB cf11 0 (by decide) (own := "PulseRemote") rfl (Or.inl k_395) (by decide +kernel) (by decide +kernel : decode cX11_setTolerance 17 = .ok (.getfield 12, 3)) hf (fun x17 hf => ?_)
    refine r_gI hB cf7 4 (by decide) (own := "PulseRemote") rfl (Or.inr ⟨_, k_160⟩) (by decide +kernel) (by decide +kernel : decode cX11_setTolerance 20 = .ok (.getfield 226, 3)) hf (fun x20 hf => ?_)
    refine r_istore_n hB (by decide +kernel : decode cX11_setTolerance 23 = .ok (.istore_n 2, 1)) rfl (by decide) rfl ?_
    refine ww_lv (lv' := [(2, .int x20), (0, .ref (b + l0)), (1, .int l1)]) rfl ?_
    refine r_aload_n hB 1 rfl (by decide +kernel : decode cX11_setTolerance 24 = .ok (.aload_n 0, 1)) rfl ?_
    refine r_gR hB cf11 0 (by decide) (own := "PulseRemote") rfl (Or.inl k_395) (by decide +kernel) (by decide +kernel : decode cX11_setTolerance 25 = .ok (.getfield 12, 3)) hf (fun x25 hf => ?_)
    refine r_iload_n hB 2 rfl (by decide +kernel : decode cX11_setTolerance 28 = .ok (.iload_n 1, 1)) rfl ?_
    refine r_pI hB cf7 4 (by decide) (own := "PulseRemote") rfl (Or.inr ⟨_, k_160⟩) (Or.inl rfl) rfl (by decide +kernel : decode cX11_setTolerance 29 = .ok (.putfield 226, 3)) hf (fun m29 hf => ?_)
    refine r_iload_n hB 0 rfl (by decide +kernel : decode cX11_setTolerance 32 = .ok (.iload_n 2, 1)) rfl ?_
    obtain rfl := Option.some.inj hf
    obtain ⟨rfl, rfl⟩ := hk
    exact r_iret hB (by decide +kernel : decode cX11_setTolerance 33 = .ok (.ireturn, 1))
theorem m_X11_setTolerance (l : Launch) (D : va_G) (cy : Nat → ClassId) (b : Nat) {l0 : Nat} {l1 : Int32} {μ : MS} {z : Int32 × MS} (hf : f_X11_setTolerance l0 l1 μ = some z) : Met l yX11_setTolerance (.code yX11_setTolerance cX11_setTolerance 3 (some .int) :: GW) rmX11_setTolerance (Pw D cy b [.ref (b + l0), .int l1] μ) (Qw D cy b (some (.int z.1)) (z.2)) rmX11_setTolerance.cells rmX11_setTolerance.slots (fun q => b ≤ q) :=
  met_of (by decide) (Nat.le_of_ble_eq_true rfl) (fun X hB _ => (t_X11_setTolerance_0 hB hf ⟨rfl, rfl⟩))
-- PulseRemote$Train.put(I)V
set_option maxHeartbeats 4000000 in
set_option maxRecDepth 100000 in
theorem t_X10_put_0 {X : BX} {D : va_G} {cy : Nat → ClassId} {b : Nat} {r : Option Value} {μ' : MS} (hB : BB X D cy b yX10_put cX10_put 2 none rmX10_put) {l0 : Nat} {l1 : Int32} {μ : MS} {z : MS} (hf : f_X10_put l0 l1 μ = some z) (hk : (fun z : MS => r = none ∧ μ' = z) z) : WW X D cy b r μ' 2 0 0 0 [(0, .ref (b + l0)), (1, .int l1)] [] μ := by
  unfold f_X10_put at hf
  refine r_aload_n hB 0 rfl (by decide +kernel : decode cX10_put 0 = .ok (.aload_n 0, 1)) rfl ?_
  refine r_gI hB cf10 1 (by decide) (own := "PulseRemote$Train") rfl (Or.inl k_138) (by decide +kernel) (by decide +kernel : decode cX10_put 1 = .ok (.getfield 15, 3)) hf (fun x1 hf => ?_)
  refine r_if_lt hB (tgt := 37) (by decide +kernel : decode cX10_put 4 = .ok (.ifCond .lt 33, 3)) (by decide) hf (fun _ hf => ?_) (fun _ hf => ?_)
  · obtain rfl := Option.some.inj hf
    obtain ⟨rfl, rfl⟩ := hk
    exact r_vret hB (by decide +kernel : decode cX10_put 37 = .ok (.return_, 1))
  · refine r_aload_n hB 0 rfl (by decide +kernel : decode cX10_put 7 = .ok (.aload_n 0, 1)) rfl ?_
    refine r_gI hB cf10 1 (by decide) (own := "PulseRemote$Train") rfl (Or.inl k_138) (by decide +kernel) (by decide +kernel : decode cX10_put 8 = .ok (.getfield 15, 3)) hf (fun x8 hf => ?_)
    refine r_sipush hB (v := 200) (by decide +kernel : decode cX10_put 11 = .ok (.sipush 200, 3)) (by decide +kernel) ?_
    refine r_icmp_ge hB (tgt := 37) (by decide +kernel : decode cX10_put 14 = .ok (.if_icmp .ge 23, 3)) (by decide) hf (fun _ hf => ?_) (fun _ hf => ?_)
    · obtain rfl := Option.some.inj hf
      obtain ⟨rfl, rfl⟩ := hk
      exact r_vret hB (by decide +kernel : decode cX10_put 37 = .ok (.return_, 1))
    · refine r_aload_n hB 0 rfl (by decide +kernel : decode cX10_put 17 = .ok (.aload_n 0, 1)) rfl ?_
      refine r_gR hB cf10 0 (by decide) (own := "PulseRemote$Train") rfl (Or.inl k_137) (by decide +kernel) (by decide +kernel : decode cX10_put 18 = .ok (.getfield 9, 3)) hf (fun x18 hf => ?_)
      refine r_aload_n hB 0 rfl (by decide +kernel : decode cX10_put 21 = .ok (.aload_n 0, 1)) rfl ?_
      refine r_gI hB cf10 1 (by decide) (own := "PulseRemote$Train") rfl (Or.inl k_138) (by decide +kernel) (by decide +kernel : decode cX10_put 22 = .ok (.getfield 15, 3)) hf (fun x22 hf => ?_)
      refine r_iload_n hB 1 rfl (by decide +kernel : decode cX10_put 25 = .ok (.iload_n 1, 1)) rfl ?_
      refine r_iast hB (by decide +kernel : decode cX10_put 26 = .ok (.iastore, 1)) hf (fun m26 hf => ?_)
      refine r_aload_n hB 0 rfl (by decide +kernel : decode cX10_put 27 = .ok (.aload_n 0, 1)) rfl ?_
      refine r_dup hB (by decide +kernel : decode cX10_put 28 = .ok (.dup, 1)) rfl ?_
      refine r_gI hB cf10 1 (by decide) (own := "PulseRemote$Train") rfl (Or.inl k_138) (by decide +kernel) (by decide +kernel : decode cX10_put 29 = .ok (.getfield 15, 3)) hf (fun x29 hf => ?_)
      refine r_iconst hB (v := 1) (by decide +kernel : decode cX10_put 32 = .ok (.iconst 1, 1)) (by decide +kernel) ?_
      refine r_iadd hB (by decide +kernel : decode cX10_put 33 = .ok (.iadd, 1)) ?_
      refine r_pI hB cf10 1 (by decide) (own := "PulseRemote$Train") rfl (Or.inl k_138) (Or.inl rfl) rfl (by decide +kernel : decode cX10_put 34 = .ok (.putfield 15, 3)) hf (fun m34 hf => ?_)
      obtain rfl := Option.some.inj hf
      obtain ⟨rfl, rfl⟩ := hk
      exact r_vret hB (by decide +kernel : decode cX10_put 37 = .ok (.return_, 1))
theorem m_X10_put (l : Launch) (D : va_G) (cy : Nat → ClassId) (b : Nat) {l0 : Nat} {l1 : Int32} {μ : MS} {z : MS} (hf : f_X10_put l0 l1 μ = some z) : Met l yX10_put (.code yX10_put cX10_put 2 none :: GW) rmX10_put (Pw D cy b [.ref (b + l0), .int l1] μ) (Qw D cy b (none) (z)) rmX10_put.cells rmX10_put.slots (fun q => b ≤ q) :=
  met_of (by decide) (Nat.le_of_ble_eq_true rfl) (fun X hB _ => (t_X10_put_0 hB hf ⟨rfl, rfl⟩))
-- PulseRemote.append(II)I
set_option maxHeartbeats 4000000 in
set_option maxRecDepth 100000 in
theorem t_X11_append_0 {X : BX} {D : va_G} {cy : Nat → ClassId} {b : Nat} {r : Option Value} {μ' : MS} (hB : BB X D cy b yX11_append cX11_append 4 (some .int) rmX11_append) {l0 : Nat} {l1 : Int32} {l2 : Int32} {μ : MS} {z : (Int32 × MS)} (hf : f_X11_append l0 l1 l2 μ = some z) (hk : (fun z : Int32 × MS => r = some (.int z.1) ∧ μ' = z.2) z) : WW X D cy b r μ' 4 0 0 0 [(0, .ref (b + l0)), (1, .int l1), (2, .int l2)] [] μ := by
  unfold f_X11_append at hf
  refine r_iload_n hB 1 rfl (by decide +kernel : decode cX11_append 0 = .ok (.iload_n 1, 1)) rfl ?_
  refine r_cSi hB [.int l1] [] (own := "PulseRemote") rfl cmX11_isSlot smX11_isSlot (Or.inl ⟨rfl, k_485⟩) (by decide) rfl rfl rfl (Nat.le_of_ble_eq_true rfl) (by decide +kernel : decode cX11_append 1 = .ok (.invokestatic 156, 3)) (fun z hz => m_X11_isSlot _ _ _ _ hz) rfl hf (fun z1 hf => ?_)
  refine r_if_eq hB (tgt := 17) (by decide +kernel : decode cX11_append 4 = .ok (.ifCond .eq 13, 3)) (by decide) hf (fun _ hf => ?_) (fun _ hf => ?_)
  · refine r_iconst hB (v := (-1)) (by decide +kernel : decode cX11_append 17 = .ok (.iconst (-1), 1)) (by decide +kernel) ?_
    obtain rfl := Option.some.inj hf
    obtain ⟨rfl, rfl⟩ := hk
    exact r_iret hB (by decide +kernel : decode cX11_append 18 = .ok (.ireturn, 1))
  · refine r_iload_n hB 2 rfl (by decide +kernel : decode cX11_append 7 = .ok (.iload_n 2, 1)) rfl ?_
    refine r_iconst hB (v := 1) (by decide +kernel : decode cX11_append 8 = .ok (.iconst 1, 1)) (by decide +kernel) ?_
    refine r_ldc hB (v := 60000) (own := "PulseRemote") rfl k_836 (by decide +kernel : decode cX11_append 9 = .ok (.ldc 222, 2)) ?_
    refine r_cSi hB [.int l2, .int 1, .int 60000] [] (own := "PulseRemote") rfl cmX11_inRange smX11_inRange (Or.inl ⟨rfl, k_440⟩) (by decide) rfl rfl rfl (Nat.le_of_ble_eq_true rfl) (by decide +kernel : decode cX11_append 11 = .ok (.invokestatic 80, 3)) (fun z hz => m_X11_inRange _ _ _ _ hz) rfl hf (fun z11 hf => ?_)
    refine r_if_ne hB (tgt := 19) (by decide +kernel : decode cX11_append 14 = .ok (.ifCond .ne 5, 3)) (by decide) hf (fun _ hf => ?_) (fun _ hf => ?_)
    · refine r_iconst hB (v := (-1)) (by decide +kernel : decode cX11_append 17 = .ok (.iconst (-1), 1)) (by decide +kernel) ?_
      obtain rfl := Option.some.inj hf
      obtain ⟨rfl, rfl⟩ := hk
      exact r_iret hB (by decide +kernel : decode cX11_append 18 = .ok (.ireturn, 1))
    · refine r_aload_n hB 0 rfl (by decide +kernel : decode cX11_append 19 = .ok (.aload_n 0, 1)) rfl ?_
      refine r_gR hB cf11 0 (by decide) (own := "PulseRemote") rfl (Or.inl k_395) (by decide +kernel) (by decide +kernel : decode cX11_append 20 = .ok (.getfield 12, 3)) hf (fun x20 hf => ?_)
      refine r_iload_n hB 1 rfl (by decide +kernel : decode cX11_append 23 = .ok (.iload_n 1, 1)) rfl ?_
      refine r_cVr hB [.int l1] [] cf7 (own := "PulseRemote") rfl cmX7_trainAt imX7_trainAt (Or.inl k_488) (by decide) rfl rfl rfl (Nat.le_of_ble_eq_true rfl) (by decide +kernel : decode cX11_append 24 = .ok (.invokevirtual 159, 3)) (fun z hz => m_X7_trainAt _ _ _ _ hz) rfl hf (fun z24 hf => ?_)
      refine r_astore_n hB (by decide +kernel : decode cX11_append 27 = .ok (.astore_n 3, 1)) rfl (by decide) rfl ?_
      refine ww_lv (lv' := [(3, .ref (b + z24.1)), (0, .ref (b + l0)), (1, .int l1), (2, .int l2)]) rfl ?_
      refine r_aload_n hB 0 rfl (by decide +kernel : decode cX11_append 28 = .ok (.aload_n 3, 1)) rfl ?_
      refine r_gI hB cf10 1 (by decide) (own := "PulseRemote") rfl (Or.inr ⟨_, k_142⟩) (by decide +kernel) (by decide +kernel : decode cX11_append 29 = .ok (.getfield 244, 3)) hf (fun x29 hf => ?_)
      refine r_sipush hB (v := 200) (by decide +kernel : decode cX11_append 32 = .ok (.sipush 200, 3)) (by decide +kernel) ?_
      refine r_icmp_lt hB (tgt := 41) (by decide +kernel : decode cX11_append 35 = .ok (.if_icmp .lt 6, 3)) (by decide) hf (fun _ hf => ?_) (fun _ hf => ?_)
      · refine r_aload_n hB 1 rfl (by decide +kernel : decode cX11_append 41 = .ok (.aload_n 0, 1)) rfl ?_
        refine r_cVv hB [] [] cf11 (own := "PulseRemote") rfl cmX11_saveState imX11_saveState (Or.inl k_443) (by decide) rfl rfl rfl (Nat.le_of_ble_eq_true rfl) (by decide +kernel : decode cX11_append 42 = .ok (.invokevirtual 91, 3)) (fun z hz => m_X11_saveState _ _ _ _ hz) rfl hf (fun z42 hf => ?_)
        refine r_aload_n hB 0 rfl (by decide +kernel : decode cX11_append 45 = .ok (.aload_n 3, 1)) rfl ?_
        refine r_iload_n hB 3 rfl (by decide +kernel : decode cX11_append 46 = .ok (.iload_n 2, 1)) rfl ?_
        refine r_cVv hB [.int l2] [] cf10 (own := "PulseRemote") rfl cmX10_put imX10_put (Or.inl k_899) (by decide) rfl rfl rfl (Nat.le_of_ble_eq_true rfl) (by decide +kernel : decode cX11_append 47 = .ok (.invokevirtual 245, 3)) (fun z hz => m_X10_put _ _ _ _ hz) rfl hf (fun z47 hf => ?_)
        refine r_aload_n hB 0 rfl (by decide +kernel : decode cX11_append 50 = .ok (.aload_n 3, 1)) rfl ?_
        refine r_gI hB cf10 1 (by decide) (own := "PulseRemote") rfl (Or.inr ⟨_, k_142⟩) (by decide +kernel) (by decide +kernel : decode cX11_append 51 = .ok (.getfield 244, 3)) hf (fun x51 hf => ?_)
        obtain rfl := Option.some.inj hf
        obtain ⟨rfl, rfl⟩ := hk
        exact r_iret hB (by decide +kernel : decode cX11_append 54 = .ok (.ireturn, 1))
      · refine r_bipush hB (v := (-3)) (by decide +kernel : decode cX11_append 38 = .ok (.bipush (-3), 2)) (by decide +kernel) ?_
        obtain rfl := Option.some.inj hf
        obtain ⟨rfl, rfl⟩ := hk
        exact r_iret hB (by decide +kernel : decode cX11_append 40 = .ok (.ireturn, 1))
theorem m_X11_append (l : Launch) (D : va_G) (cy : Nat → ClassId) (b : Nat) {l0 : Nat} {l1 : Int32} {l2 : Int32} {μ : MS} {z : Int32 × MS} (hf : f_X11_append l0 l1 l2 μ = some z) : Met l yX11_append (.code yX11_append cX11_append 4 (some .int) :: GW) rmX11_append (Pw D cy b [.ref (b + l0), .int l1, .int l2] μ) (Qw D cy b (some (.int z.1)) (z.2)) rmX11_append.cells rmX11_append.slots (fun q => b ≤ q) :=
  met_of (by decide) (Nat.le_of_ble_eq_true rfl) (fun X hB _ => (t_X11_append_0 hB hf ⟨rfl, rfl⟩))
-- PulseRemote$Train.join(ZI)V
set_option maxHeartbeats 4000000 in
set_option maxRecDepth 100000 in
theorem t_X10_join_43 {X : BX} {D : va_G} {cy : Nat → ClassId} {b : Nat} {r : Option Value} {μ' : MS} (hB : BB X D cy b yX10_join cX10_join 3 none rmX10_join) {l0 : Nat} {l2 : Int32} {μ : MS} {z : MS} (hf : f_X10_join_43 l0 l2 μ = some z) (hk : (fun z : MS => r = none ∧ μ' = z) z) : WW X D cy b r μ' 3 0 0 43 [(0, .ref (b + l0)), (2, .int l2)] [] μ := by
  unfold f_X10_join_43 at hf
  refine r_aload_n hB 0 rfl (by decide +kernel : decode cX10_join 43 = .ok (.aload_n 0, 1)) rfl ?_
  refine r_iload_n hB 1 rfl (by decide +kernel : decode cX10_join 44 = .ok (.iload_n 2, 1)) rfl ?_
  refine r_cVv hB [.int l2] [] cf10 (own := "PulseRemote$Train") rfl cmX10_put imX10_put (Or.inl k_607) (by decide) rfl rfl rfl (Nat.le_of_ble_eq_true rfl) (by decide +kernel : decode cX10_join 45 = .ok (.invokevirtual 23, 3)) (fun z hz => m_X10_put _ _ _ _ hz) rfl hf (fun z45 hf => ?_)
  obtain rfl := Option.some.inj hf
  obtain ⟨rfl, rfl⟩ := hk
  exact r_vret hB (by decide +kernel : decode cX10_join 48 = .ok (.return_, 1))
set_option maxHeartbeats 4000000 in
set_option maxRecDepth 100000 in
theorem t_X10_join_0 {X : BX} {D : va_G} {cy : Nat → ClassId} {b : Nat} {r : Option Value} {μ' : MS} (hB : BB X D cy b yX10_join cX10_join 3 none rmX10_join) {l0 : Nat} {l1 : Int32} {l2 : Int32} {μ : MS} {z : MS} (hf : f_X10_join l0 l1 l2 μ = some z) (hk : (fun z : MS => r = none ∧ μ' = z) z) : WW X D cy b r μ' 3 0 0 0 [(0, .ref (b + l0)), (1, .int l1), (2, .int l2)] [] μ := by
  unfold f_X10_join at hf
  refine r_aload_n hB 0 rfl (by decide +kernel : decode cX10_join 0 = .ok (.aload_n 0, 1)) rfl ?_
  refine r_gI hB cf10 1 (by decide) (own := "PulseRemote$Train") rfl (Or.inl k_138) (by decide +kernel) (by decide +kernel : decode cX10_join 1 = .ok (.getfield 15, 3)) hf (fun x1 hf => ?_)
  refine r_if_le hB (tgt := 43) (by decide +kernel : decode cX10_join 4 = .ok (.ifCond .le 39, 3)) (by decide) hf (fun _ hf => ?_) (fun _ hf => ?_)
  · exact WW.sub [0, 2] rfl (t_X10_join_43 hB hf hk)
  · refine r_aload_n hB 0 rfl (by decide +kernel : decode cX10_join 7 = .ok (.aload_n 0, 1)) rfl ?_
    refine r_gI hB cf10 1 (by decide) (own := "PulseRemote$Train") rfl (Or.inl k_138) (by decide +kernel) (by decide +kernel : decode cX10_join 8 = .ok (.getfield 15, 3)) hf (fun x8 hf => ?_)
    refine r_sipush hB (v := 200) (by decide +kernel : decode cX10_join 11 = .ok (.sipush 200, 3)) (by decide +kernel) ?_
    refine r_icmp_gt hB (tgt := 43) (by decide +kernel : decode cX10_join 14 = .ok (.if_icmp .gt 29, 3)) (by decide) hf (fun _ hf => ?_) (fun _ hf => ?_)
    · exact WW.sub [0, 2] rfl (t_X10_join_43 hB hf hk)
    · refine r_aload_n hB 0 rfl (by decide +kernel : decode cX10_join 17 = .ok (.aload_n 0, 1)) rfl ?_
      refine r_cVi hB [] [] cf10 (own := "PulseRemote$Train") rfl cmX10_endsWithMark imX10_endsWithMark (Or.inl k_606) (by decide) rfl rfl rfl (Nat.le_of_ble_eq_true rfl) (by decide +kernel : decode cX10_join 18 = .ok (.invokevirtual 19, 3)) (fun z hz => m_X10_endsWithMark _ _ _ _ hz) rfl hf (fun z18 hf => ?_)
      refine r_iload_n hB 1 rfl (by decide +kernel : decode cX10_join 21 = .ok (.iload_n 1, 1)) rfl ?_
      refine r_icmp_ne hB (tgt := 43) (by decide +kernel : decode cX10_join 22 = .ok (.if_icmp .ne 21, 3)) (by decide) hf (fun _ hf => ?_) (fun _ hf => ?_)
      · refine r_aload_n hB 0 rfl (by decide +kernel : decode cX10_join 25 = .ok (.aload_n 0, 1)) rfl ?_
        refine r_gR hB cf10 0 (by decide) (own := "PulseRemote$Train") rfl (Or.inl k_137) (by decide +kernel) (by decide +kernel : decode cX10_join 26 = .ok (.getfield 9, 3)) hf (fun x26 hf => ?_)
        refine r_aload_n hB 0 rfl (by decide +kernel : decode cX10_join 29 = .ok (.aload_n 0, 1)) rfl ?_
        refine r_gI hB cf10 1 (by decide) (own := "PulseRemote$Train") rfl (Or.inl k_138) (by decide +kernel) (by decide +kernel : decode cX10_join 30 = .ok (.getfield 15, 3)) hf (fun x30 hf => ?_)
        refine r_iconst hB (v := 1) (by decide +kernel : decode cX10_join 33 = .ok (.iconst 1, 1)) (by decide +kernel) ?_
        refine r_isub hB (by decide +kernel : decode cX10_join 34 = .ok (.isub, 1)) ?_
        refine r_dup2 hB (by decide +kernel : decode cX10_join 35 = .ok (.dup2, 1)) rfl rfl ?_
        refine r_iald hB (by decide +kernel : decode cX10_join 36 = .ok (.iaload, 1)) hf (fun x36 hf => ?_)
        refine r_iload_n hB 2 rfl (by decide +kernel : decode cX10_join 37 = .ok (.iload_n 2, 1)) rfl ?_
        refine r_iadd hB (by decide +kernel : decode cX10_join 38 = .ok (.iadd, 1)) ?_
        refine r_iast hB (by decide +kernel : decode cX10_join 39 = .ok (.iastore, 1)) hf (fun m39 hf => ?_)
        refine r_goto hB (tgt := 48) (by decide +kernel : decode cX10_join 40 = .ok (.goto 8, 3)) (by decide) ?_
        obtain rfl := Option.some.inj hf
        obtain ⟨rfl, rfl⟩ := hk
        exact r_vret hB (by decide +kernel : decode cX10_join 48 = .ok (.return_, 1))
      · exact WW.sub [0, 2] rfl (t_X10_join_43 hB hf hk)
theorem m_X10_join (l : Launch) (D : va_G) (cy : Nat → ClassId) (b : Nat) {l0 : Nat} {l1 : Int32} {l2 : Int32} {μ : MS} {z : MS} (hf : f_X10_join l0 l1 l2 μ = some z) : Met l yX10_join (.code yX10_join cX10_join 3 none :: GW) rmX10_join (Pw D cy b [.ref (b + l0), .int l1, .int l2] μ) (Qw D cy b (none) (z)) rmX10_join.cells rmX10_join.slots (fun q => b ≤ q) :=
  met_of (by decide) (Nat.le_of_ble_eq_true rfl) (fun X hB _ => (t_X10_join_0 hB hf ⟨rfl, rfl⟩))
-- PulseRemote$Protocol.writeBit(ZILPulseRemote$Train;)V
set_option maxHeartbeats 4000000 in
set_option maxRecDepth 100000 in
theorem t_X6_writeBit_27 {X : BX} {D : va_G} {cy : Nat → ClassId} {b : Nat} {r : Option Value} {μ' : MS} (hB : BB X D cy b yX6_writeBit cX6_writeBit 4 none rmX6_writeBit) {l0 : Nat} {s0 : Int32} {s1 : Nat} {μ : MS} {z : MS} (hf : f_X6_writeBit_27 l0 s0 s1 μ = some z) (hk : (fun z : MS => r = none ∧ μ' = z) z) : WW X D cy b r μ' 4 0 0 27 [(0, .ref (b + l0))] [.int s0, .ref (b + s1)] μ := by
  unfold f_X6_writeBit_27 at hf
  refine r_aload_n hB 0 rfl (by decide +kernel : decode cX6_writeBit 27 = .ok (.aload_n 0, 1)) rfl ?_
  refine r_gI hB cf6 3 (by decide) (own := "PulseRemote$Protocol") rfl (Or.inl k_72) (by decide +kernel) (by decide +kernel : decode cX6_writeBit 28 = .ok (.getfield 30, 3)) hf (fun x28 hf => ?_)
  refine r_cVv hB [.int s0, .int x28] [] cf10 (own := "PulseRemote$Protocol") rfl cmX10_join imX10_join (Or.inl k_602) (by decide) rfl rfl rfl (Nat.le_of_ble_eq_true rfl) (by decide +kernel : decode cX6_writeBit 31 = .ok (.invokevirtual 68, 3)) (fun z hz => m_X10_join _ _ _ _ hz) rfl hf (fun z31 hf => ?_)
  refine r_goto hB (tgt := 106) (by decide +kernel : decode cX6_writeBit 34 = .ok (.goto 72, 3)) (by decide) ?_
  obtain rfl := Option.some.inj hf
  obtain ⟨rfl, rfl⟩ := hk
  exact r_vret hB (by decide +kernel : decode cX6_writeBit 106 = .ok (.return_, 1))
set_option maxHeartbeats 4000000 in
set_option maxRecDepth 100000 in
theorem t_X6_writeBit_73 {X : BX} {D : va_G} {cy : Nat → ClassId} {b : Nat} {r : Option Value} {μ' : MS} (hB : BB X D cy b yX6_writeBit cX6_writeBit 4 none rmX6_writeBit) {s0 : Int32} {s1 : Nat} {μ : MS} {z : MS} (hf : f_X6_writeBit_73 s0 s1 μ = some z) (hk : (fun z : MS => r = none ∧ μ' = z) z) : WW X D cy b r μ' 4 0 0 73 [] [.int s0, .ref (b + s1)] μ := by
  unfold f_X6_writeBit_73 at hf
  refine r_cVv hB [.int s0] [] cf10 (own := "PulseRemote$Protocol") rfl cmX10_put imX10_put (Or.inl k_593) (by decide) rfl rfl rfl (Nat.le_of_ble_eq_true rfl) (by decide +kernel : decode cX6_writeBit 73 = .ok (.invokevirtual 56, 3)) (fun z hz => m_X10_put _ _ _ _ hz) rfl hf (fun z73 hf => ?_)
  refine r_goto hB (tgt := 106) (by decide +kernel : decode cX6_writeBit 76 = .ok (.goto 30, 3)) (by decide) ?_
  obtain rfl := Option.some.inj hf
  obtain ⟨rfl, rfl⟩ := hk
  exact r_vret hB (by decide +kernel : decode cX6_writeBit 106 = .ok (.return_, 1))
set_option maxHeartbeats 4000000 in
set_option maxRecDepth 100000 in
theorem t_X6_writeBit_57 {X : BX} {D : va_G} {cy : Nat → ClassId} {b : Nat} {r : Option Value} {μ' : MS} (hB : BB X D cy b yX6_writeBit cX6_writeBit 4 none rmX6_writeBit) {l0 : Nat} {l1 : Int32} {l3 : Nat} {μ : MS} {z : MS} (hf : f_X6_writeBit_57 l0 l1 l3 μ = some z) (hk : (fun z : MS => r = none ∧ μ' = z) z) : WW X D cy b r μ' 4 0 0 57 [(0, .ref (b + l0)), (1, .int l1), (3, .ref (b + l3))] [] μ := by
  unfold f_X6_writeBit_57 at hf
  refine r_aload_n hB 2 rfl (by decide +kernel : decode cX6_writeBit 57 = .ok (.aload_n 3, 1)) rfl ?_
  refine r_iload_n hB 1 rfl (by decide +kernel : decode cX6_writeBit 58 = .ok (.iload_n 1, 1)) rfl ?_
  refine r_if_eq hB (tgt := 69) (by decide +kernel : decode cX6_writeBit 59 = .ok (.ifCond .eq 10, 3)) (by decide) hf (fun _ hf => ?_) (fun _ hf => ?_)
  · refine r_aload_n hB 0 rfl (by decide +kernel : decode cX6_writeBit 69 = .ok (.aload_n 0, 1)) rfl ?_
    refine r_gI hB cf6 4 (by decide) (own := "PulseRemote$Protocol") rfl (Or.inl k_75) (by decide +kernel) (by decide +kernel : decode cX6_writeBit 70 = .ok (.getfield 33, 3)) hf (fun x70 hf => ?_)
    exact WW.sub [] rfl (t_X6_writeBit_73 hB hf hk)
  · refine r_aload_n hB 0 rfl (by decide +kernel : decode cX6_writeBit 62 = .ok (.aload_n 0, 1)) rfl ?_
    refine r_gI hB cf6 5 (by decide) (own := "PulseRemote$Protocol") rfl (Or.inl k_78) (by decide +kernel) (by decide +kernel : decode cX6_writeBit 63 = .ok (.getfield 36, 3)) hf (fun x63 hf => ?_)
    refine r_goto hB (tgt := 73) (by decide +kernel : decode cX6_writeBit 66 = .ok (.goto 7, 3)) (by decide) ?_
    exact WW.sub [] rfl (t_X6_writeBit_73 hB hf hk)
set_option maxHeartbeats 4000000 in
set_option maxRecDepth 100000 in
theorem t_X6_writeBit_103 {X : BX} {D : va_G} {cy : Nat → ClassId} {b : Nat} {r : Option Value} {μ' : MS} (hB : BB X D cy b yX6_writeBit cX6_writeBit 4 none rmX6_writeBit) {s0 : Int32} {s1 : Nat} {μ : MS} {z : MS} (hf : f_X6_writeBit_103 s0 s1 μ = some z) (hk : (fun z : MS => r = none ∧ μ' = z) z) : WW X D cy b r μ' 4 0 0 103 [] [.int s0, .ref (b + s1)] μ := by
  unfold f_X6_writeBit_103 at hf
  refine r_cVv hB [.int s0] [] cf10 (own := "PulseRemote$Protocol") rfl cmX10_put imX10_put (Or.inl k_593) (by decide) rfl rfl rfl (Nat.le_of_ble_eq_true rfl) (by decide +kernel : decode cX6_writeBit 103 = .ok (.invokevirtual 56, 3)) (fun z hz => m_X10_put _ _ _ _ hz) rfl hf (fun z103 hf => ?_)
  obtain rfl := Option.some.inj hf
  obtain ⟨rfl, rfl⟩ := hk
  exact r_vret hB (by decide +kernel : decode cX6_writeBit 106 = .ok (.return_, 1))
set_option maxHeartbeats 4000000 in
set_option maxRecDepth 100000 in
theorem t_X6_writeBit_0 {X : BX} {D : va_G} {cy : Nat → ClassId} {b : Nat} {r : Option Value} {μ' : MS} (hB : BB X D cy b yX6_writeBit cX6_writeBit 4 none rmX6_writeBit) {l0 : Nat} {l1 : Int32} {l2 : Int32} {l3 : Nat} {μ : MS} {z : MS} (hf : f_X6_writeBit l0 l1 l2 l3 μ = some z) (hk : (fun z : MS => r = none ∧ μ' = z) z) : WW X D cy b r μ' 4 0 0 0 [(0, .ref (b + l0)), (1, .int l1), (2, .int l2), (3, .ref (b + l3))] [] μ := by
  unfold f_X6_writeBit at hf
  refine r_aload_n hB 0 rfl (by decide +kernel : decode cX6_writeBit 0 = .ok (.aload_n 0, 1)) rfl ?_
  refine r_gI hB cf6 0 (by decide) (own := "PulseRemote$Protocol") rfl (Or.inl k_63) (by decide +kernel) (by decide +kernel : decode cX6_writeBit 1 = .ok (.getfield 9, 3)) hf (fun x1 hf => ?_)
  refine r_iconst hB (v := 2) (by decide +kernel : decode cX6_writeBit 4 = .ok (.iconst 2, 1)) (by decide +kernel) ?_
  refine r_icmp_ne hB (tgt := 37) (by decide +kernel : decode cX6_writeBit 5 = .ok (.if_icmp .ne 32, 3)) (by decide) hf (fun _ hf => ?_) (fun _ hf => ?_)
  · refine r_aload_n hB 3 rfl (by decide +kernel : decode cX6_writeBit 8 = .ok (.aload_n 3, 1)) rfl ?_
    refine r_iload_n hB 1 rfl (by decide +kernel : decode cX6_writeBit 9 = .ok (.iload_n 1, 1)) rfl ?_
    refine r_aload_n hB 0 rfl (by decide +kernel : decode cX6_writeBit 10 = .ok (.aload_n 0, 1)) rfl ?_
    refine r_gI hB cf6 3 (by decide) (own := "PulseRemote$Protocol") rfl (Or.inl k_72) (by decide +kernel) (by decide +kernel : decode cX6_writeBit 11 = .ok (.getfield 30, 3)) hf (fun x11 hf => ?_)
    refine r_cVv hB [.int l1, .int x11] [] cf10 (own := "PulseRemote$Protocol") rfl cmX10_join imX10_join (Or.inl k_602) (by decide) rfl rfl rfl (Nat.le_of_ble_eq_true rfl) (by decide +kernel : decode cX6_writeBit 14 = .ok (.invokevirtual 68, 3)) (fun z hz => m_X10_join _ _ _ _ hz) rfl hf (fun z14 hf => ?_)
    refine r_aload_n hB 3 rfl (by decide +kernel : decode cX6_writeBit 17 = .ok (.aload_n 3, 1)) rfl ?_
    refine r_iload_n hB 1 rfl (by decide +kernel : decode cX6_writeBit 18 = .ok (.iload_n 1, 1)) rfl ?_
    refine r_if_ne hB (tgt := 26) (by decide +kernel : decode cX6_writeBit 19 = .ok (.ifCond .ne 7, 3)) (by decide) hf (fun _ hf => ?_) (fun _ hf => ?_)
    · refine r_iconst hB (v := 1) (by decide +kernel : decode cX6_writeBit 22 = .ok (.iconst 1, 1)) (by decide +kernel) ?_
      refine r_goto hB (tgt := 27) (by decide +kernel : decode cX6_writeBit 23 = .ok (.goto 4, 3)) (by decide) ?_
      exact WW.sub [0] rfl (t_X6_writeBit_27 hB hf hk)
    · refine r_iconst hB (v := 0) (by decide +kernel : decode cX6_writeBit 26 = .ok (.iconst 0, 1)) (by decide +kernel) ?_
      exact WW.sub [0] rfl (t_X6_writeBit_27 hB hf hk)
  · refine r_aload_n hB 0 rfl (by decide +kernel : decode cX6_writeBit 37 = .ok (.aload_n 0, 1)) rfl ?_
    refine r_gI hB cf6 0 (by decide) (own := "PulseRemote$Protocol") rfl (Or.inl k_63) (by decide +kernel) (by decide +kernel : decode cX6_writeBit 38 = .ok (.getfield 9, 3)) hf (fun x38 hf => ?_)
    refine r_iconst hB (v := 1) (by decide +kernel : decode cX6_writeBit 41 = .ok (.iconst 1, 1)) (by decide +kernel) ?_
    refine r_icmp_ne hB (tgt := 79) (by decide +kernel : decode cX6_writeBit 42 = .ok (.if_icmp .ne 37, 3)) (by decide) hf (fun _ hf => ?_) (fun _ hf => ?_)
    · refine r_iload_n hB 2 rfl (by decide +kernel : decode cX6_writeBit 45 = .ok (.iload_n 2, 1)) rfl ?_
      refine r_if_le hB (tgt := 57) (by decide +kernel : decode cX6_writeBit 46 = .ok (.ifCond .le 11, 3)) (by decide) hf (fun _ hf => ?_) (fun _ hf => ?_)
      · exact WW.sub [0, 1, 3] rfl (t_X6_writeBit_57 hB hf hk)
      · refine r_aload_n hB 3 rfl (by decide +kernel : decode cX6_writeBit 49 = .ok (.aload_n 3, 1)) rfl ?_
        refine r_aload_n hB 0 rfl (by decide +kernel : decode cX6_writeBit 50 = .ok (.aload_n 0, 1)) rfl ?_
        refine r_gI hB cf6 3 (by decide) (own := "PulseRemote$Protocol") rfl (Or.inl k_72) (by decide +kernel) (by decide +kernel : decode cX6_writeBit 51 = .ok (.getfield 30, 3)) hf (fun x51 hf => ?_)
        refine r_cVv hB [.int x51] [] cf10 (own := "PulseRemote$Protocol") rfl cmX10_put imX10_put (Or.inl k_593) (by decide) rfl rfl rfl (Nat.le_of_ble_eq_true rfl) (by decide +kernel : decode cX6_writeBit 54 = .ok (.invokevirtual 56, 3)) (fun z hz => m_X10_put _ _ _ _ hz) rfl hf (fun z54 hf => ?_)
        exact WW.sub [0, 1, 3] rfl (t_X6_writeBit_57 hB hf hk)
    · refine r_aload_n hB 3 rfl (by decide +kernel : decode cX6_writeBit 79 = .ok (.aload_n 3, 1)) rfl ?_
      refine r_aload_n hB 0 rfl (by decide +kernel : decode cX6_writeBit 80 = .ok (.aload_n 0, 1)) rfl ?_
      refine r_gI hB cf6 3 (by decide) (own := "PulseRemote$Protocol") rfl (Or.inl k_72) (by decide +kernel) (by decide +kernel : decode cX6_writeBit 81 = .ok (.getfield 30, 3)) hf (fun x81 hf => ?_)
      refine r_cVv hB [.int x81] [] cf10 (own := "PulseRemote$Protocol") rfl cmX10_put imX10_put (Or.inl k_593) (by decide) rfl rfl rfl (Nat.le_of_ble_eq_true rfl) (by decide +kernel : decode cX6_writeBit 84 = .ok (.invokevirtual 56, 3)) (fun z hz => m_X10_put _ _ _ _ hz) rfl hf (fun z84 hf => ?_)
      refine r_aload_n hB 3 rfl (by decide +kernel : decode cX6_writeBit 87 = .ok (.aload_n 3, 1)) rfl ?_
      refine r_iload_n hB 1 rfl (by decide +kernel : decode cX6_writeBit 88 = .ok (.iload_n 1, 1)) rfl ?_
      refine r_if_eq hB (tgt := 99) (by decide +kernel : decode cX6_writeBit 89 = .ok (.ifCond .eq 10, 3)) (by decide) hf (fun _ hf => ?_) (fun _ hf => ?_)
      · refine r_aload_n hB 0 rfl (by decide +kernel : decode cX6_writeBit 99 = .ok (.aload_n 0, 1)) rfl ?_
        refine r_gI hB cf6 4 (by decide) (own := "PulseRemote$Protocol") rfl (Or.inl k_75) (by decide +kernel) (by decide +kernel : decode cX6_writeBit 100 = .ok (.getfield 33, 3)) hf (fun x100 hf => ?_)
        exact WW.sub [] rfl (t_X6_writeBit_103 hB hf hk)
      · refine r_aload_n hB 0 rfl (by decide +kernel : decode cX6_writeBit 92 = .ok (.aload_n 0, 1)) rfl ?_
        refine r_gI hB cf6 5 (by decide) (own := "PulseRemote$Protocol") rfl (Or.inl k_78) (by decide +kernel) (by decide +kernel : decode cX6_writeBit 93 = .ok (.getfield 36, 3)) hf (fun x93 hf => ?_)
        refine r_goto hB (tgt := 103) (by decide +kernel : decode cX6_writeBit 96 = .ok (.goto 7, 3)) (by decide) ?_
        exact WW.sub [] rfl (t_X6_writeBit_103 hB hf hk)
theorem m_X6_writeBit (l : Launch) (D : va_G) (cy : Nat → ClassId) (b : Nat) {l0 : Nat} {l1 : Int32} {l2 : Int32} {l3 : Nat} {μ : MS} {z : MS} (hf : f_X6_writeBit l0 l1 l2 l3 μ = some z) : Met l yX6_writeBit (.code yX6_writeBit cX6_writeBit 4 none :: GW) rmX6_writeBit (Pw D cy b [.ref (b + l0), .int l1, .int l2, .ref (b + l3)] μ) (Qw D cy b (none) (z)) rmX6_writeBit.cells rmX6_writeBit.slots (fun q => b ≤ q) :=
  met_of (by decide) (Nat.le_of_ble_eq_true rfl) (fun X hB _ => (t_X6_writeBit_0 hB hf ⟨rfl, rfl⟩))
-- PulseRemote$Protocol.writeFrame(ILPulseRemote$Train;)V
set_option maxHeartbeats 4000000 in
set_option maxRecDepth 100000 in
theorem t_X6_writeFrame_73 {X : BX} {D : va_G} {cy : Nat → ClassId} {b : Nat} {r : Option Value} {μ' : MS} (hB : BB X D cy b yX6_writeFrame cX6_writeFrame 4 none rmX6_writeFrame) {l2 : Nat} {μ : MS} {z : MS} (hf : f_X6_writeFrame_73 l2 μ = some z) (hk : (fun z : MS => r = none ∧ μ' = z) z) : WW X D cy b r μ' 4 0 0 73 [(2, .ref (b + l2))] [] μ := by
  unfold f_X6_writeFrame_73 at hf
  refine r_aload_n hB 0 rfl (by decide +kernel : decode cX6_writeFrame 73 = .ok (.aload_n 2, 1)) rfl ?_
  refine r_cVi hB [] [] cf10 (own := "PulseRemote$Protocol") rfl cmX10_endsWithMark imX10_endsWithMark (Or.inl k_608) (by decide) rfl rfl rfl (Nat.le_of_ble_eq_true rfl) (by decide +kernel : decode cX6_writeFrame 74 = .ok (.invokevirtual 64, 3)) (fun z hz => m_X10_endsWithMark _ _ _ _ hz) rfl hf (fun z74 hf => ?_)
  refine r_if_ne hB (tgt := 90) (by decide +kernel : decode cX6_writeFrame 77 = .ok (.ifCond .ne 13, 3)) (by decide) hf (fun _ hf => ?_) (fun _ hf => ?_)
  · refine r_aload_n hB 0 rfl (by decide +kernel : decode cX6_writeFrame 80 = .ok (.aload_n 2, 1)) rfl ?_
    refine r_dup hB (by decide +kernel : decode cX6_writeFrame 81 = .ok (.dup, 1)) rfl ?_
    refine r_gI hB cf10 1 (by decide) (own := "PulseRemote$Protocol") rfl (Or.inr ⟨_, k_141⟩) (by decide +kernel) (by decide +kernel : decode cX6_writeFrame 82 = .ok (.getfield 51, 3)) hf (fun x82 hf => ?_)
    refine r_iconst hB (v := 1) (by decide +kernel : decode cX6_writeFrame 85 = .ok (.iconst 1, 1)) (by decide +kernel) ?_
    refine r_isub hB (by decide +kernel : decode cX6_writeFrame 86 = .ok (.isub, 1)) ?_
    refine r_pI hB cf10 1 (by decide) (own := "PulseRemote$Protocol") rfl (Or.inr ⟨_, k_141⟩) (Or.inl rfl) rfl (by decide +kernel : decode cX6_writeFrame 87 = .ok (.putfield 51, 3)) hf (fun m87 hf => ?_)
    obtain rfl := Option.some.inj hf
    obtain ⟨rfl, rfl⟩ := hk
    exact r_vret hB (by decide +kernel : decode cX6_writeFrame 90 = .ok (.return_, 1))
  · obtain rfl := Option.some.inj hf
    obtain ⟨rfl, rfl⟩ := hk
    exact r_vret hB (by decide +kernel : decode cX6_writeFrame 90 = .ok (.return_, 1))
set_option maxHeartbeats 4000000 in
set_option maxRecDepth 100000 in
theorem t_X6_writeFrame_58 {X : BX} {D : va_G} {cy : Nat → ClassId} {b : Nat} {r : Option Value} {μ' : MS} (hB : BB X D cy b yX6_writeFrame cX6_writeFrame 4 none rmX6_writeFrame) {l0 : Nat} {l2 : Nat} {μ : MS} {z : MS} (hf : f_X6_writeFrame_58 l0 l2 μ = some z) (hk : (fun z : MS => r = none ∧ μ' = z) z) : WW X D cy b r μ' 4 0 0 58 [(0, .ref (b + l0)), (2, .ref (b + l2))] [] μ := by
  unfold f_X6_writeFrame_58 at hf
  refine r_aload_n hB 0 rfl (by decide +kernel : decode cX6_writeFrame 58 = .ok (.aload_n 0, 1)) rfl ?_
  refine r_gI hB cf6 0 (by decide) (own := "PulseRemote$Protocol") rfl (Or.inl k_63) (by decide +kernel) (by decide +kernel : decode cX6_writeFrame 59 = .ok (.getfield 9, 3)) hf (fun x59 hf => ?_)
  refine r_if_ne hB (tgt := 73) (by decide +kernel : decode cX6_writeFrame 62 = .ok (.ifCond .ne 11, 3)) (by decide) hf (fun _ hf => ?_) (fun _ hf => ?_)
  · refine r_aload_n hB 1 rfl (by decide +kernel : decode cX6_writeFrame 65 = .ok (.aload_n 2, 1)) rfl ?_
    refine r_aload_n hB 0 rfl (by decide +kernel : decode cX6_writeFrame 66 = .ok (.aload_n 0, 1)) rfl ?_
    refine r_gI hB cf6 3 (by decide) (own := "PulseRemote$Protocol") rfl (Or.inl k_72) (by decide +kernel) (by decide +kernel : decode cX6_writeFrame 67 = .ok (.getfield 30, 3)) hf (fun x67 hf => ?_)
    refine r_cVv hB [.int x67] [] cf10 (own := "PulseRemote$Protocol") rfl cmX10_put imX10_put (Or.inl k_593) (by decide) rfl rfl rfl (Nat.le_of_ble_eq_true rfl) (by decide +kernel : decode cX6_writeFrame 70 = .ok (.invokevirtual 56, 3)) (fun z hz => m_X10_put _ _ _ _ hz) rfl hf (fun z70 hf => ?_)
    exact WW.sub [1] rfl (t_X6_writeFrame_73 hB hf hk)
  · exact WW.sub [1] rfl (t_X6_writeFrame_73 hB hf hk)
set_option maxHeartbeats 4000000 in
set_option maxRecDepth 100000 in
theorem t_X6_writeFrame_47 {X : BX} {D : va_G} {cy : Nat → ClassId} {b : Nat} {r : Option Value} {μ' : MS} (hB : BB X D cy b yX6_writeFrame cX6_writeFrame 4 none rmX6_writeFrame) {l0 : Nat} {l1 : Int32} {l2 : Nat} {l3 : Int32} {s0 : Int32} {s1 : Nat} {μ : MS} {z : ((Nat × Int32 × Nat × Int32 × MS) ⊕ MS)} (hf : f_X6_writeFrame_47 l0 l1 l2 l3 s0 s1 μ = some z) (hk : (Sum.elim (fun s : Nat × Int32 × Nat × Int32 × MS => WW X D cy b r μ' 4 0 0 23 [(0, .ref (b + s.1)), (1, .int s.2.1), (2, .ref (b + s.2.2.1)), (3, .int s.2.2.2.1)] [] s.2.2.2.2) (fun z : MS => r = none ∧ μ' = z)) z) : WW X D cy b r μ' 4 0 0 47 [(0, .ref (b + l0)), (1, .int l1), (2, .ref (b + l2)), (3, .int l3)] [.int s0, .ref (b + s1)] μ := by
  unfold f_X6_writeFrame_47 at hf
  refine r_iload_n hB 3 rfl (by decide +kernel : decode cX6_writeFrame 47 = .ok (.iload_n 3, 1)) rfl ?_
  refine r_aload_n hB 2 rfl (by decide +kernel : decode cX6_writeFrame 48 = .ok (.aload_n 2, 1)) rfl ?_
  refine r_cVv hB [.int s0, .int l3, .ref (b + l2)] [] cf6 (own := "PulseRemote$Protocol") rfl cmX6_writeBit imX6_writeBit (Or.inl k_598) (by decide) rfl rfl rfl (Nat.le_of_ble_eq_true rfl) (by decide +kernel : decode cX6_writeFrame 49 = .ok (.invokevirtual 60, 3)) (fun z hz => m_X6_writeBit _ _ _ _ hz) rfl hf (fun z49 hf => ?_)
  refine r_iincB hB 3 rfl (by decide +kernel : decode cX6_writeFrame 52 = .ok (.iinc 3 1, 3)) (w := 1) (by decide +kernel) (by decide) hf (fun v52 hf => ?_)
  refine ww_lv (lv' := [(3, .int v52), (0, .ref (b + l0)), (1, .int l1), (2, .ref (b + l2))]) rfl ?_
  refine r_goto hB (tgt := 23) (by decide +kernel : decode cX6_writeFrame 55 = .ok (.goto (-32), 3)) (by decide) ?_
  obtain rfl := Option.some.inj hf
  exact WW.sub [1, 2, 3, 0] rfl hk
set_option maxHeartbeats 4000000 in
set_option maxRecDepth 100000 in
theorem t_X6_writeFrame_23_b {X : BX} {D : va_G} {cy : Nat → ClassId} {b : Nat} {r : Option Value} {μ' : MS} (hB : BB X D cy b yX6_writeFrame cX6_writeFrame 4 none rmX6_writeFrame) {l0 : Nat} {l1 : Int32} {l2 : Nat} {l3 : Int32} {μ : MS} {z : ((Nat × Int32 × Nat × Int32 × MS) ⊕ MS)} (hf : f_X6_writeFrame_23_b l0 l1 l2 l3 μ = some z) (hk : (Sum.elim (fun s : Nat × Int32 × Nat × Int32 × MS => WW X D cy b r μ' 4 0 0 23 [(0, .ref (b + s.1)), (1, .int s.2.1), (2, .ref (b + s.2.2.1)), (3, .int s.2.2.2.1)] [] s.2.2.2.2) (fun z : MS => r = none ∧ μ' = z)) z) : WW X D cy b r μ' 4 0 0 23 [(0, .ref (b + l0)), (1, .int l1), (2, .ref (b + l2)), (3, .int l3)] [] μ := by
  unfold f_X6_writeFrame_23_b at hf
  refine r_iload_n hB 3 rfl (by decide +kernel : decode cX6_writeFrame 23 = .ok (.iload_n 3, 1)) rfl ?_
  refine r_aload_n hB 0 rfl (by decide +kernel : decode cX6_writeFrame 24 = .ok (.aload_n 0, 1)) rfl ?_
  refine r_gI hB cf6 6 (by decide) (own := "PulseRemote$Protocol") rfl (Or.inl k_81) (by decide +kernel) (by decide +kernel : decode cX6_writeFrame 25 = .ok (.getfield 15, 3)) hf (fun x25 hf => ?_)
  refine r_icmp_ge hB (tgt := 58) (by decide +kernel : decode cX6_writeFrame 28 = .ok (.if_icmp .ge 30, 3)) (by decide) hf (fun _ hf => ?_) (fun _ hf => ?_)
  · obtain ⟨_, hx0, rfl⟩ := xr_inv hf
    exact WW.sub [0, 2] rfl (t_X6_writeFrame_58 hB hx0 hk)
  · refine r_aload_n hB 0 rfl (by decide +kernel : decode cX6_writeFrame 31 = .ok (.aload_n 0, 1)) rfl ?_
    refine r_iload_n hB 1 rfl (by decide +kernel : decode cX6_writeFrame 32 = .ok (.iload_n 1, 1)) rfl ?_
    refine r_aload_n hB 0 rfl (by decide +kernel : decode cX6_writeFrame 33 = .ok (.aload_n 0, 1)) rfl ?_
    refine r_iload_n hB 3 rfl (by decide +kernel : decode cX6_writeFrame 34 = .ok (.iload_n 3, 1)) rfl ?_
    refine r_cVi hB [.int l3] [.int l1, .ref (b + l0)] cf6 (own := "PulseRemote$Protocol") rfl cmX6_maskAt imX6_maskAt (Or.inl k_597) (by decide) rfl rfl rfl (Nat.le_of_ble_eq_true rfl) (by decide +kernel : decode cX6_writeFrame 35 = .ok (.invokevirtual 47, 3)) (fun z hz => m_X6_maskAt _ _ _ _ hz) rfl hf (fun z35 hf => ?_)
    refine r_iand hB (by decide +kernel : decode cX6_writeFrame 38 = .ok (.iand, 1)) ?_
    refine r_if_eq hB (tgt := 46) (by decide +kernel : decode cX6_writeFrame 39 = .ok (.ifCond .eq 7, 3)) (by decide) hf (fun _ hf => ?_) (fun _ hf => ?_)
    · refine r_iconst hB (v := 0) (by decide +kernel : decode cX6_writeFrame 46 = .ok (.iconst 0, 1)) (by decide +kernel) ?_
      exact WW.sub [0, 1, 2, 3] rfl (t_X6_writeFrame_47 hB hf hk)
    · refine r_iconst hB (v := 1) (by decide +kernel : decode cX6_writeFrame 42 = .ok (.iconst 1, 1)) (by decide +kernel) ?_
      refine r_goto hB (tgt := 47) (by decide +kernel : decode cX6_writeFrame 43 = .ok (.goto 4, 3)) (by decide) ?_
      exact WW.sub [0, 1, 2, 3] rfl (t_X6_writeFrame_47 hB hf hk)
set_option maxHeartbeats 4000000 in
set_option maxRecDepth 100000 in
theorem t_X6_writeFrame_23 {X : BX} {D : va_G} {cy : Nat → ClassId} {b : Nat} {r : Option Value} {μ' : MS} (hB : BB X D cy b yX6_writeFrame cX6_writeFrame 4 none rmX6_writeFrame) {l0 : Nat} {l1 : Int32} {l2 : Nat} {l3 : Int32} {μ : MS} {z : MS} (hf : f_X6_writeFrame_23 l0 l1 l2 l3 μ = some z) (hk : (fun z : MS => r = none ∧ μ' = z) z) : WW X D cy b r μ' 4 0 0 23 [(0, .ref (b + l0)), (1, .int l1), (2, .ref (b + l2)), (3, .int l3)] [] μ :=
  lp_ind (P := fun s : Nat × Int32 × Nat × Int32 × MS => WW X D cy b r μ' 4 0 0 23 [(0, .ref (b + s.1)), (1, .int s.2.1), (2, .ref (b + s.2.2.1)), (3, .int s.2.2.2.1)] [] s.2.2.2.2) (Q := (fun z : MS => r = none ∧ μ' = z)) (fun s z hz hk => t_X6_writeFrame_23_b hB hz hk) (l0, l1, l2, l3, μ) z hf hk
set_option maxHeartbeats 4000000 in
set_option maxRecDepth 100000 in
theorem t_X6_writeFrame_0 {X : BX} {D : va_G} {cy : Nat → ClassId} {b : Nat} {r : Option Value} {μ' : MS} (hB : BB X D cy b yX6_writeFrame cX6_writeFrame 4 none rmX6_writeFrame) {l0 : Nat} {l1 : Int32} {l2 : Nat} {μ : MS} {z : MS} (hf : f_X6_writeFrame l0 l1 l2 μ = some z) (hk : (fun z : MS => r = none ∧ μ' = z) z) : WW X D cy b r μ' 4 0 0 0 [(0, .ref (b + l0)), (1, .int l1), (2, .ref (b + l2))] [] μ := by
  unfold f_X6_writeFrame at hf
  refine r_aload_n hB 2 rfl (by decide +kernel : decode cX6_writeFrame 0 = .ok (.aload_n 2, 1)) rfl ?_
  refine r_iconst hB (v := 0) (by decide +kernel : decode cX6_writeFrame 1 = .ok (.iconst 0, 1)) (by decide +kernel) ?_
  refine r_pI hB cf10 1 (by decide) (own := "PulseRemote$Protocol") rfl (Or.inr ⟨_, k_141⟩) (Or.inl rfl) rfl (by decide +kernel : decode cX6_writeFrame 2 = .ok (.putfield 51, 3)) hf (fun m2 hf => ?_)
  refine r_aload_n hB 2 rfl (by decide +kernel : decode cX6_writeFrame 5 = .ok (.aload_n 2, 1)) rfl ?_
  refine r_aload_n hB 0 rfl (by decide +kernel : decode cX6_writeFrame 6 = .ok (.aload_n 0, 1)) rfl ?_
  refine r_gI hB cf6 1 (by decide) (own := "PulseRemote$Protocol") rfl (Or.inl k_66) (by decide +kernel) (by decide +kernel : decode cX6_writeFrame 7 = .ok (.getfield 24, 3)) hf (fun x7 hf => ?_)
  refine r_cVv hB [.int x7] [] cf10 (own := "PulseRemote$Protocol") rfl cmX10_put imX10_put (Or.inl k_593) (by decide) rfl rfl rfl (Nat.le_of_ble_eq_true rfl) (by decide +kernel : decode cX6_writeFrame 10 = .ok (.invokevirtual 56, 3)) (fun z hz => m_X10_put _ _ _ _ hz) rfl hf (fun z10 hf => ?_)
  refine r_aload_n hB 2 rfl (by decide +kernel : decode cX6_writeFrame 13 = .ok (.aload_n 2, 1)) rfl ?_
  refine r_aload_n hB 0 rfl (by decide +kernel : decode cX6_writeFrame 14 = .ok (.aload_n 0, 1)) rfl ?_
  refine r_gI hB cf6 2 (by decide) (own := "PulseRemote$Protocol") rfl (Or.inl k_69) (by decide +kernel) (by decide +kernel : decode cX6_writeFrame 15 = .ok (.getfield 27, 3)) hf (fun x15 hf => ?_)
  refine r_cVv hB [.int x15] [] cf10 (own := "PulseRemote$Protocol") rfl cmX10_put imX10_put (Or.inl k_593) (by decide) rfl rfl rfl (Nat.le_of_ble_eq_true rfl) (by decide +kernel : decode cX6_writeFrame 18 = .ok (.invokevirtual 56, 3)) (fun z hz => m_X10_put _ _ _ _ hz) rfl hf (fun z18 hf => ?_)
  refine r_iconst hB (v := 0) (by decide +kernel : decode cX6_writeFrame 21 = .ok (.iconst 0, 1)) (by decide +kernel) ?_
  refine r_istore_n hB (by decide +kernel : decode cX6_writeFrame 22 = .ok (.istore_n 3, 1)) rfl (by decide) rfl ?_
  refine ww_lv (lv' := [(3, .int 0), (0, .ref (b + l0)), (1, .int l1), (2, .ref (b + l2))]) rfl ?_
  exact WW.sub [1, 2, 3, 0] rfl (t_X6_writeFrame_23 hB hf hk)
theorem m_X6_writeFrame (l : Launch) (D : va_G) (cy : Nat → ClassId) (b : Nat) {l0 : Nat} {l1 : Int32} {l2 : Nat} {μ : MS} {z : MS} (hf : f_X6_writeFrame l0 l1 l2 μ = some z) : Met l yX6_writeFrame (.code yX6_writeFrame cX6_writeFrame 4 none :: GW) rmX6_writeFrame (Pw D cy b [.ref (b + l0), .int l1, .ref (b + l2)] μ) (Qw D cy b (none) (z)) rmX6_writeFrame.cells rmX6_writeFrame.slots (fun q => b ≤ q) :=
  met_of (by decide) (Nat.le_of_ble_eq_true rfl) (fun X hB _ => (t_X6_writeFrame_0 hB hf ⟨rfl, rfl⟩))
-- PulseRemote.appendScratch(LPulseRemote$Train;I)I
set_option maxHeartbeats 4000000 in
set_option maxRecDepth 100000 in
theorem t_X11_appendScratch_100 {X : BX} {D : va_G} {cy : Nat → ClassId} {b : Nat} {r : Option Value} {μ' : MS} (hB : BB X D cy b yX11_appendScratch cX11_appendScratch 5 (some .int) rmX11_appendScratch) {l1 : Nat} {μ : MS} {z : (Int32 × MS)} (hf : f_X11_appendScratch_100 l1 μ = some z) (hk : (fun z : Int32 × MS => r = some (.int z.1) ∧ μ' = z.2) z) : WW X D cy b r μ' 5 0 0 100 [(1, .ref (b + l1))] [] μ := by
  unfold f_X11_appendScratch_100 at hf
  refine r_aload_n hB 0 rfl (by decide +kernel : decode cX11_appendScratch 100 = .ok (.aload_n 1, 1)) rfl ?_
  refine r_gI hB cf10 1 (by decide) (own := "PulseRemote") rfl (Or.inr ⟨_, k_142⟩) (by decide +kernel) (by decide +kernel : decode cX11_appendScratch 101 = .ok (.getfield 244, 3)) hf (fun x101 hf => ?_)
  obtain rfl := Option.some.inj hf
  obtain ⟨rfl, rfl⟩ := hk
  exact r_iret hB (by decide +kernel : decode cX11_appendScratch 104 = .ok (.ireturn, 1))
set_option maxHeartbeats 4000000 in
set_option maxRecDepth 100000 in
theorem t_X11_appendScratch_69_b {X : BX} {D : va_G} {cy : Nat → ClassId} {b : Nat} {r : Option Value} {μ' : MS} (hB : BB X D cy b yX11_appendScratch cX11_appendScratch 5 (some .int) rmX11_appendScratch) {l0 : Nat} {l1 : Nat} {l4 : Int32} {μ : MS} {z : ((Nat × Nat × Int32 × MS) ⊕ (Int32 × MS))} (hf : f_X11_appendScratch_69_b l0 l1 l4 μ = some z) (hk : (Sum.elim (fun s : Nat × Nat × Int32 × MS => WW X D cy b r μ' 5 0 0 69 [(0, .ref (b + s.1)), (1, .ref (b + s.2.1)), (4, .int s.2.2.1)] [] s.2.2.2) (fun z : Int32 × MS => r = some (.int z.1) ∧ μ' = z.2)) z) : WW X D cy b r μ' 5 0 0 69 [(0, .ref (b + l0)), (1, .ref (b + l1)), (4, .int l4)] [] μ := by
  unfold f_X11_appendScratch_69_b at hf
  refine r_iload hB 2 rfl (by decide +kernel : decode cX11_appendScratch 69 = .ok (.iload 4, 2)) ?_
  refine r_aload_n hB 0 rfl (by decide +kernel : decode cX11_appendScratch 71 = .ok (.aload_n 0, 1)) rfl ?_
  refine r_gR hB cf11 5 (by decide) (own := "PulseRemote") rfl (Or.inl k_400) (by decide +kernel) (by decide +kernel : decode cX11_appendScratch 72 = .ok (.getfield 37, 3)) hf (fun x72 hf => ?_)
  refine r_gI hB cf10 1 (by decide) (own := "PulseRemote") rfl (Or.inr ⟨_, k_142⟩) (by decide +kernel) (by decide +kernel : decode cX11_appendScratch 75 = .ok (.getfield 244, 3)) hf (fun x75 hf => ?_)
  refine r_icmp_ge hB (tgt := 100) (by decide +kernel : decode cX11_appendScratch 78 = .ok (.if_icmp .ge 22, 3)) (by decide) hf (fun _ hf => ?_) (fun _ hf => ?_)
  · obtain ⟨_, hx0, rfl⟩ := xr_inv hf
    exact WW.sub [1] rfl (t_X11_appendScratch_100 hB hx0 hk)
  · refine r_aload_n hB 1 rfl (by decide +kernel : decode cX11_appendScratch 81 = .ok (.aload_n 1, 1)) rfl ?_
    refine r_aload_n hB 0 rfl (by decide +kernel : decode cX11_appendScratch 82 = .ok (.aload_n 0, 1)) rfl ?_
    refine r_gR hB cf11 5 (by decide) (own := "PulseRemote") rfl (Or.inl k_400) (by decide +kernel) (by decide +kernel : decode cX11_appendScratch 83 = .ok (.getfield 37, 3)) hf (fun x83 hf => ?_)
    refine r_iload hB 2 rfl (by decide +kernel : decode cX11_appendScratch 86 = .ok (.iload 4, 2)) ?_
    refine r_cVi hB [.int l4] [.ref (b + l1)] cf10 (own := "PulseRemote") rfl cmX10_at imX10_at (Or.inl k_617) (by decide) rfl rfl rfl (Nat.le_of_ble_eq_true rfl) (by decide +kernel : decode cX11_appendScratch 88 = .ok (.invokevirtual 283, 3)) (fun z hz => m_X10_at _ _ _ _ hz) rfl hf (fun z88 hf => ?_)
    refine r_cVv hB [.int z88.1] [] cf10 (own := "PulseRemote") rfl cmX10_put imX10_put (Or.inl k_899) (by decide) rfl rfl rfl (Nat.le_of_ble_eq_true rfl) (by decide +kernel : decode cX11_appendScratch 91 = .ok (.invokevirtual 245, 3)) (fun z hz => m_X10_put _ _ _ _ hz) rfl hf (fun z91 hf => ?_)
    refine r_iincB hB 2 rfl (by decide +kernel : decode cX11_appendScratch 94 = .ok (.iinc 4 1, 3)) (w := 1) (by decide +kernel) (by decide) hf (fun v94 hf => ?_)
    refine ww_lv (lv' := [(4, .int v94), (0, .ref (b + l0)), (1, .ref (b + l1))]) rfl ?_
    refine r_goto hB (tgt := 69) (by decide +kernel : decode cX11_appendScratch 97 = .ok (.goto (-28), 3)) (by decide) ?_
    obtain rfl := Option.some.inj hf
    exact WW.sub [1, 2, 0] rfl hk
set_option maxHeartbeats 4000000 in
set_option maxRecDepth 100000 in
theorem t_X11_appendScratch_69 {X : BX} {D : va_G} {cy : Nat → ClassId} {b : Nat} {r : Option Value} {μ' : MS} (hB : BB X D cy b yX11_appendScratch cX11_appendScratch 5 (some .int) rmX11_appendScratch) {l0 : Nat} {l1 : Nat} {l4 : Int32} {μ : MS} {z : (Int32 × MS)} (hf : f_X11_appendScratch_69 l0 l1 l4 μ = some z) (hk : (fun z : Int32 × MS => r = some (.int z.1) ∧ μ' = z.2) z) : WW X D cy b r μ' 5 0 0 69 [(0, .ref (b + l0)), (1, .ref (b + l1)), (4, .int l4)] [] μ :=
  lp_ind (P := fun s : Nat × Nat × Int32 × MS => WW X D cy b r μ' 5 0 0 69 [(0, .ref (b + s.1)), (1, .ref (b + s.2.1)), (4, .int s.2.2.1)] [] s.2.2.2) (Q := (fun z : Int32 × MS => r = some (.int z.1) ∧ μ' = z.2)) (fun s z hz hk => t_X11_appendScratch_69_b hB hz hk) (l0, l1, l4, μ) z hf hk
set_option maxHeartbeats 4000000 in
set_option maxRecDepth 100000 in
theorem t_X11_appendScratch_66 {X : BX} {D : va_G} {cy : Nat → ClassId} {b : Nat} {r : Option Value} {μ' : MS} (hB : BB X D cy b yX11_appendScratch cX11_appendScratch 5 (some .int) rmX11_appendScratch) {l0 : Nat} {l1 : Nat} {μ : MS} {z : (Int32 × MS)} (hf : f_X11_appendScratch_66 l0 l1 μ = some z) (hk : (fun z : Int32 × MS => r = some (.int z.1) ∧ μ' = z.2) z) : WW X D cy b r μ' 5 0 0 66 [(0, .ref (b + l0)), (1, .ref (b + l1))] [] μ := by
  unfold f_X11_appendScratch_66 at hf
  refine r_iconst hB (v := 0) (by decide +kernel : decode cX11_appendScratch 66 = .ok (.iconst 0, 1)) (by decide +kernel) ?_
  refine r_istore hB (by decide +kernel : decode cX11_appendScratch 67 = .ok (.istore 4, 2)) (by decide) rfl ?_
  refine ww_lv (lv' := [(4, .int 0), (0, .ref (b + l0)), (1, .ref (b + l1))]) rfl ?_
  exact WW.sub [1, 2, 0] rfl (t_X11_appendScratch_69 hB hf hk)
set_option maxHeartbeats 4000000 in
set_option maxRecDepth 100000 in
theorem t_X11_appendScratch_29 {X : BX} {D : va_G} {cy : Nat → ClassId} {b : Nat} {r : Option Value} {μ' : MS} (hB : BB X D cy b yX11_appendScratch cX11_appendScratch 5 (some .int) rmX11_appendScratch) {l0 : Nat} {l1 : Nat} {l2 : Int32} {s0 : Int32} {μ : MS} {z : (Int32 × MS)} (hf : f_X11_appendScratch_29 l0 l1 l2 s0 μ = some z) (hk : (fun z : Int32 × MS => r = some (.int z.1) ∧ μ' = z.2) z) : WW X D cy b r μ' 5 0 0 29 [(0, .ref (b + l0)), (1, .ref (b + l1)), (2, .int l2)] [.int s0] μ := by
  unfold f_X11_appendScratch_29 at hf
  refine r_istore_n hB (by decide +kernel : decode cX11_appendScratch 29 = .ok (.istore_n 3, 1)) rfl (by decide) rfl ?_
  refine ww_lv (lv' := [(3, .int s0), (0, .ref (b + l0)), (1, .ref (b + l1)), (2, .int l2)]) rfl ?_
  refine r_aload_n hB 2 rfl (by decide +kernel : decode cX11_appendScratch 30 = .ok (.aload_n 1, 1)) rfl ?_
  refine r_gI hB cf10 1 (by decide) (own := "PulseRemote") rfl (Or.inr ⟨_, k_142⟩) (by decide +kernel) (by decide +kernel : decode cX11_appendScratch 31 = .ok (.getfield 244, 3)) hf (fun x31 hf => ?_)
  refine r_iload_n hB 0 rfl (by decide +kernel : decode cX11_appendScratch 34 = .ok (.iload_n 3, 1)) rfl ?_
  refine r_iadd hB (by decide +kernel : decode cX11_appendScratch 35 = .ok (.iadd, 1)) ?_
  refine r_aload_n hB 1 rfl (by decide +kernel : decode cX11_appendScratch 36 = .ok (.aload_n 0, 1)) rfl ?_
  refine r_gR hB cf11 5 (by decide) (own := "PulseRemote") rfl (Or.inl k_400) (by decide +kernel) (by decide +kernel : decode cX11_appendScratch 37 = .ok (.getfield 37, 3)) hf (fun x37 hf => ?_)
  refine r_gI hB cf10 1 (by decide) (own := "PulseRemote") rfl (Or.inr ⟨_, k_142⟩) (by decide +kernel) (by decide +kernel : decode cX11_appendScratch 40 = .ok (.getfield 244, 3)) hf (fun x40 hf => ?_)
  refine r_iadd hB (by decide +kernel : decode cX11_appendScratch 43 = .ok (.iadd, 1)) ?_
  refine r_sipush hB (v := 200) (by decide +kernel : decode cX11_appendScratch 44 = .ok (.sipush 200, 3)) (by decide +kernel) ?_
  refine r_icmp_le hB (tgt := 53) (by decide +kernel : decode cX11_appendScratch 47 = .ok (.if_icmp .le 6, 3)) (by decide) hf (fun _ hf => ?_) (fun _ hf => ?_)
  · refine r_aload_n hB 1 rfl (by decide +kernel : decode cX11_appendScratch 53 = .ok (.aload_n 0, 1)) rfl ?_
    refine r_cVv hB [] [] cf11 (own := "PulseRemote") rfl cmX11_saveState imX11_saveState (Or.inl k_443) (by decide) rfl rfl rfl (Nat.le_of_ble_eq_true rfl) (by decide +kernel : decode cX11_appendScratch 54 = .ok (.invokevirtual 91, 3)) (fun z hz => m_X11_saveState _ _ _ _ hz) rfl hf (fun z54 hf => ?_)
    refine r_iload_n hB 0 rfl (by decide +kernel : decode cX11_appendScratch 57 = .ok (.iload_n 3, 1)) rfl ?_
    refine r_if_le hB (tgt := 66) (by decide +kernel : decode cX11_appendScratch 58 = .ok (.ifCond .le 8, 3)) (by decide) hf (fun _ hf => ?_) (fun _ hf => ?_)
    · exact WW.sub [1, 2] rfl (t_X11_appendScratch_66 hB hf hk)
    · refine r_aload_n hB 2 rfl (by decide +kernel : decode cX11_appendScratch 61 = .ok (.aload_n 1, 1)) rfl ?_
      refine r_iload_n hB 3 rfl (by decide +kernel : decode cX11_appendScratch 62 = .ok (.iload_n 2, 1)) rfl ?_
      refine r_cVv hB [.int l2] [] cf10 (own := "PulseRemote") rfl cmX10_put imX10_put (Or.inl k_899) (by decide) rfl rfl rfl (Nat.le_of_ble_eq_true rfl) (by decide +kernel : decode cX11_appendScratch 63 = .ok (.invokevirtual 245, 3)) (fun z hz => m_X10_put _ _ _ _ hz) rfl hf (fun z63 hf => ?_)
      exact WW.sub [1, 2] rfl (t_X11_appendScratch_66 hB hf hk)
  · refine r_bipush hB (v := (-3)) (by decide +kernel : decode cX11_appendScratch 50 = .ok (.bipush (-3), 2)) (by decide +kernel) ?_
    obtain rfl := Option.some.inj hf
    obtain ⟨rfl, rfl⟩ := hk
    exact r_iret hB (by decide +kernel : decode cX11_appendScratch 52 = .ok (.ireturn, 1))
set_option maxHeartbeats 4000000 in
set_option maxRecDepth 100000 in
theorem t_X11_appendScratch_17 {X : BX} {D : va_G} {cy : Nat → ClassId} {b : Nat} {r : Option Value} {μ' : MS} (hB : BB X D cy b yX11_appendScratch cX11_appendScratch 5 (some .int) rmX11_appendScratch) {l0 : Nat} {l1 : Nat} {l2 : Int32} {μ : MS} {z : (Int32 × MS)} (hf : f_X11_appendScratch_17 l0 l1 l2 μ = some z) (hk : (fun z : Int32 × MS => r = some (.int z.1) ∧ μ' = z.2) z) : WW X D cy b r μ' 5 0 0 17 [(0, .ref (b + l0)), (1, .ref (b + l1)), (2, .int l2)] [] μ := by
  unfold f_X11_appendScratch_17 at hf
  refine r_aload_n hB 1 rfl (by decide +kernel : decode cX11_appendScratch 17 = .ok (.aload_n 1, 1)) rfl ?_
  refine r_gI hB cf10 1 (by decide) (own := "PulseRemote") rfl (Or.inr ⟨_, k_142⟩) (by decide +kernel) (by decide +kernel : decode cX11_appendScratch 18 = .ok (.getfield 244, 3)) hf (fun x18 hf => ?_)
  refine r_if_le hB (tgt := 28) (by decide +kernel : decode cX11_appendScratch 21 = .ok (.ifCond .le 7, 3)) (by decide) hf (fun _ hf => ?_) (fun _ hf => ?_)
  · refine r_iconst hB (v := 0) (by decide +kernel : decode cX11_appendScratch 28 = .ok (.iconst 0, 1)) (by decide +kernel) ?_
    exact WW.sub [0, 1, 2] rfl (t_X11_appendScratch_29 hB hf hk)
  · refine r_iconst hB (v := 1) (by decide +kernel : decode cX11_appendScratch 24 = .ok (.iconst 1, 1)) (by decide +kernel) ?_
    refine r_goto hB (tgt := 29) (by decide +kernel : decode cX11_appendScratch 25 = .ok (.goto 4, 3)) (by decide) ?_
    exact WW.sub [0, 1, 2] rfl (t_X11_appendScratch_29 hB hf hk)
set_option maxHeartbeats 4000000 in
set_option maxRecDepth 100000 in
theorem t_X11_appendScratch_0 {X : BX} {D : va_G} {cy : Nat → ClassId} {b : Nat} {r : Option Value} {μ' : MS} (hB : BB X D cy b yX11_appendScratch cX11_appendScratch 5 (some .int) rmX11_appendScratch) {l0 : Nat} {l1 : Nat} {l2 : Int32} {μ : MS} {z : (Int32 × MS)} (hf : f_X11_appendScratch l0 l1 l2 μ = some z) (hk : (fun z : Int32 × MS => r = some (.int z.1) ∧ μ' = z.2) z) : WW X D cy b r μ' 5 0 0 0 [(0, .ref (b + l0)), (1, .ref (b + l1)), (2, .int l2)] [] μ := by
  unfold f_X11_appendScratch at hf
  refine r_aload_n hB 1 rfl (by decide +kernel : decode cX11_appendScratch 0 = .ok (.aload_n 1, 1)) rfl ?_
  refine r_gI hB cf10 1 (by decide) (own := "PulseRemote") rfl (Or.inr ⟨_, k_142⟩) (by decide +kernel) (by decide +kernel : decode cX11_appendScratch 1 = .ok (.getfield 244, 3)) hf (fun x1 hf => ?_)
  refine r_if_le hB (tgt := 17) (by decide +kernel : decode cX11_appendScratch 4 = .ok (.ifCond .le 13, 3)) (by decide) hf (fun _ hf => ?_) (fun _ hf => ?_)
  · exact WW.sub [0, 1, 2] rfl (t_X11_appendScratch_17 hB hf hk)
  · refine r_aload_n hB 1 rfl (by decide +kernel : decode cX11_appendScratch 7 = .ok (.aload_n 1, 1)) rfl ?_
    refine r_cVi hB [] [] cf10 (own := "PulseRemote") rfl cmX10_endsWithMark imX10_endsWithMark (Or.inl k_850) (by decide) rfl rfl rfl (Nat.le_of_ble_eq_true rfl) (by decide +kernel : decode cX11_appendScratch 8 = .ok (.invokevirtual 260, 3)) (fun z hz => m_X10_endsWithMark _ _ _ _ hz) rfl hf (fun z8 hf => ?_)
    refine r_if_ne hB (tgt := 17) (by decide +kernel : decode cX11_appendScratch 11 = .ok (.ifCond .ne 6, 3)) (by decide) hf (fun _ hf => ?_) (fun _ hf => ?_)
    · refine r_bipush hB (v := (-2)) (by decide +kernel : decode cX11_appendScratch 14 = .ok (.bipush (-2), 2)) (by decide +kernel) ?_
      obtain rfl := Option.some.inj hf
      obtain ⟨rfl, rfl⟩ := hk
      exact r_iret hB (by decide +kernel : decode cX11_appendScratch 16 = .ok (.ireturn, 1))
    · exact WW.sub [0, 1, 2] rfl (t_X11_appendScratch_17 hB hf hk)
theorem m_X11_appendScratch (l : Launch) (D : va_G) (cy : Nat → ClassId) (b : Nat) {l0 : Nat} {l1 : Nat} {l2 : Int32} {μ : MS} {z : Int32 × MS} (hf : f_X11_appendScratch l0 l1 l2 μ = some z) : Met l yX11_appendScratch (.code yX11_appendScratch cX11_appendScratch 5 (some .int) :: GW) rmX11_appendScratch (Pw D cy b [.ref (b + l0), .ref (b + l1), .int l2] μ) (Qw D cy b (some (.int z.1)) (z.2)) rmX11_appendScratch.cells rmX11_appendScratch.slots (fun q => b ≤ q) :=
  met_of (by decide) (Nat.le_of_ble_eq_true rfl) (fun X hB _ => (t_X11_appendScratch_0 hB hf ⟨rfl, rfl⟩))
-- PulseRemote.send(IIII)I
set_option maxHeartbeats 4000000 in
set_option maxRecDepth 100000 in
theorem t_X11_send_0 {X : BX} {D : va_G} {cy : Nat → ClassId} {b : Nat} {r : Option Value} {μ' : MS} (hB : BB X D cy b yX11_send cX11_send 5 (some .int) rmX11_send) {l0 : Nat} {l1 : Int32} {l2 : Int32} {l3 : Int32} {l4 : Int32} {μ : MS} {z : (Int32 × MS)} (hf : f_X11_send l0 l1 l2 l3 l4 μ = some z) (hk : (fun z : Int32 × MS => r = some (.int z.1) ∧ μ' = z.2) z) : WW X D cy b r μ' 5 0 0 0 [(0, .ref (b + l0)), (1, .int l1), (2, .int l2), (3, .int l3), (4, .int l4)] [] μ := by
  unfold f_X11_send at hf
  refine r_iload_n hB 1 rfl (by decide +kernel : decode cX11_send 0 = .ok (.iload_n 1, 1)) rfl ?_
  refine r_cSi hB [.int l1] [] (own := "PulseRemote") rfl cmX11_isSlot smX11_isSlot (Or.inl ⟨rfl, k_485⟩) (by decide) rfl rfl rfl (Nat.le_of_ble_eq_true rfl) (by decide +kernel : decode cX11_send 1 = .ok (.invokestatic 156, 3)) (fun z hz => m_X11_isSlot _ _ _ _ hz) rfl hf (fun z1 hf => ?_)
  refine r_if_eq hB (tgt := 50) (by decide +kernel : decode cX11_send 4 = .ok (.ifCond .eq 46, 3)) (by decide) hf (fun _ hf => ?_) (fun _ hf => ?_)
  · refine r_iconst hB (v := (-1)) (by decide +kernel : decode cX11_send 50 = .ok (.iconst (-1), 1)) (by decide +kernel) ?_
    obtain rfl := Option.some.inj hf
    obtain ⟨rfl, rfl⟩ := hk
    exact r_iret hB (by decide +kernel : decode cX11_send 51 = .ok (.ireturn, 1))
  · refine r_aload_n hB 0 rfl (by decide +kernel : decode cX11_send 7 = .ok (.aload_n 0, 1)) rfl ?_
    refine r_gR hB cf11 0 (by decide) (own := "PulseRemote") rfl (Or.inl k_395) (by decide +kernel) (by decide +kernel : decode cX11_send 8 = .ok (.getfield 12, 3)) hf (fun x8 hf => ?_)
    refine r_gR hB cf7 0 (by decide) (own := "PulseRemote") rfl (Or.inr ⟨_, k_150⟩) (by decide +kernel) (by decide +kernel : decode cX11_send 11 = .ok (.getfield 84, 3)) hf (fun x11 hf => ?_)
    refine r_iload_n hB 2 rfl (by decide +kernel : decode cX11_send 14 = .ok (.iload_n 2, 1)) rfl ?_
    refine r_cVi hB [.int l2] [] cf8 (own := "PulseRemote") rfl cmX8_hasProtocol imX8_hasProtocol (Or.inl k_729) (by decide) rfl rfl rfl (Nat.le_of_ble_eq_true rfl) (by decide +kernel : decode cX11_send 15 = .ok (.invokevirtual 98, 3)) (fun z hz => m_X8_hasProtocol _ _ _ _ hz) rfl hf (fun z15 hf => ?_)
    refine r_if_eq hB (tgt := 50) (by decide +kernel : decode cX11_send 18 = .ok (.ifCond .eq 32, 3)) (by decide) hf (fun _ hf => ?_) (fun _ hf => ?_)
    · refine r_iconst hB (v := (-1)) (by decide +kernel : decode cX11_send 50 = .ok (.iconst (-1), 1)) (by decide +kernel) ?_
      obtain rfl := Option.some.inj hf
      obtain ⟨rfl, rfl⟩ := hk
      exact r_iret hB (by decide +kernel : decode cX11_send 51 = .ok (.ireturn, 1))
    · refine r_aload_n hB 0 rfl (by decide +kernel : decode cX11_send 21 = .ok (.aload_n 0, 1)) rfl ?_
      refine r_gR hB cf11 0 (by decide) (own := "PulseRemote") rfl (Or.inl k_395) (by decide +kernel) (by decide +kernel : decode cX11_send 22 = .ok (.getfield 12, 3)) hf (fun x22 hf => ?_)
      refine r_gR hB cf7 0 (by decide) (own := "PulseRemote") rfl (Or.inr ⟨_, k_150⟩) (by decide +kernel) (by decide +kernel : decode cX11_send 25 = .ok (.getfield 84, 3)) hf (fun x25 hf => ?_)
      refine r_iload_n hB 2 rfl (by decide +kernel : decode cX11_send 28 = .ok (.iload_n 2, 1)) rfl ?_
      refine r_cVr hB [.int l2] [] cf8 (own := "PulseRemote") rfl cmX8_protocolAt imX8_protocolAt (Or.inl k_588) (by decide) rfl rfl rfl (Nat.le_of_ble_eq_true rfl) (by decide +kernel : decode cX11_send 29 = .ok (.invokevirtual 102, 3)) (fun z hz => m_X8_protocolAt _ _ _ _ hz) rfl hf (fun z29 hf => ?_)
      refine r_iload_n hB 3 rfl (by decide +kernel : decode cX11_send 32 = .ok (.iload_n 3, 1)) rfl ?_
      refine r_cVi hB [.int l3] [] cf6 (own := "PulseRemote") rfl cmX6_hasCode imX6_hasCode (Or.inl k_774) (by decide) rfl rfl rfl (Nat.le_of_ble_eq_true rfl) (by decide +kernel : decode cX11_send 33 = .ok (.invokevirtual 196, 3)) (fun z hz => m_X6_hasCode _ _ _ _ hz) rfl hf (fun z33 hf => ?_)
      refine r_if_eq hB (tgt := 50) (by decide +kernel : decode cX11_send 36 = .ok (.ifCond .eq 14, 3)) (by decide) hf (fun _ hf => ?_) (fun _ hf => ?_)
      · refine r_iconst hB (v := (-1)) (by decide +kernel : decode cX11_send 50 = .ok (.iconst (-1), 1)) (by decide +kernel) ?_
        obtain rfl := Option.some.inj hf
        obtain ⟨rfl, rfl⟩ := hk
        exact r_iret hB (by decide +kernel : decode cX11_send 51 = .ok (.ireturn, 1))
      · refine r_iload hB 4 rfl (by decide +kernel : decode cX11_send 39 = .ok (.iload 4, 2)) ?_
        refine r_iconst hB (v := 1) (by decide +kernel : decode cX11_send 41 = .ok (.iconst 1, 1)) (by decide +kernel) ?_
        refine r_ldc hB (v := 60000) (own := "PulseRemote") rfl k_836 (by decide +kernel : decode cX11_send 42 = .ok (.ldc 222, 2)) ?_
        refine r_cSi hB [.int l4, .int 1, .int 60000] [] (own := "PulseRemote") rfl cmX11_inRange smX11_inRange (Or.inl ⟨rfl, k_440⟩) (by decide) rfl rfl rfl (Nat.le_of_ble_eq_true rfl) (by decide +kernel : decode cX11_send 44 = .ok (.invokestatic 80, 3)) (fun z hz => m_X11_inRange _ _ _ _ hz) rfl hf (fun z44 hf => ?_)
        refine r_if_ne hB (tgt := 52) (by decide +kernel : decode cX11_send 47 = .ok (.ifCond .ne 5, 3)) (by decide) hf (fun _ hf => ?_) (fun _ hf => ?_)
        · refine r_iconst hB (v := (-1)) (by decide +kernel : decode cX11_send 50 = .ok (.iconst (-1), 1)) (by decide +kernel) ?_
          obtain rfl := Option.some.inj hf
          obtain ⟨rfl, rfl⟩ := hk
          exact r_iret hB (by decide +kernel : decode cX11_send 51 = .ok (.ireturn, 1))
        · refine r_aload_n hB 0 rfl (by decide +kernel : decode cX11_send 52 = .ok (.aload_n 0, 1)) rfl ?_
          refine r_gR hB cf11 0 (by decide) (own := "PulseRemote") rfl (Or.inl k_395) (by decide +kernel) (by decide +kernel : decode cX11_send 53 = .ok (.getfield 12, 3)) hf (fun x53 hf => ?_)
          refine r_gR hB cf7 0 (by decide) (own := "PulseRemote") rfl (Or.inr ⟨_, k_150⟩) (by decide +kernel) (by decide +kernel : decode cX11_send 56 = .ok (.getfield 84, 3)) hf (fun x56 hf => ?_)
          refine r_iload_n hB 2 rfl (by decide +kernel : decode cX11_send 59 = .ok (.iload_n 2, 1)) rfl ?_
          refine r_cVr hB [.int l2] [] cf8 (own := "PulseRemote") rfl cmX8_protocolAt imX8_protocolAt (Or.inl k_588) (by decide) rfl rfl rfl (Nat.le_of_ble_eq_true rfl) (by decide +kernel : decode cX11_send 60 = .ok (.invokevirtual 102, 3)) (fun z hz => m_X8_protocolAt _ _ _ _ hz) rfl hf (fun z60 hf => ?_)
          refine r_iload_n hB 3 rfl (by decide +kernel : decode cX11_send 63 = .ok (.iload_n 3, 1)) rfl ?_
          refine r_aload_n hB 0 rfl (by decide +kernel : decode cX11_send 64 = .ok (.aload_n 0, 1)) rfl ?_
          refine r_gR hB cf11 5 (by decide) (own := "PulseRemote") rfl (Or.inl k_400) (by decide +kernel) (by decide +kernel : decode cX11_send 65 = .ok (.getfield 37, 3)) hf (fun x65 hf => ?_)
          refine r_cVv hB [.int l3, .ref (b + x65)] [] cf6 (own := "PulseRemote") rfl cmX6_writeFrame imX6_writeFrame (Or.inl k_589) (by decide) rfl rfl rfl (Nat.le_of_ble_eq_true rfl) (by decide +kernel : decode cX11_send 68 = .ok (.invokevirtual 248, 3)) (fun z hz => m_X6_writeFrame _ _ _ _ hz) rfl hf (fun z68 hf => ?_)
          refine r_aload_n hB 0 rfl (by decide +kernel : decode cX11_send 71 = .ok (.aload_n 0, 1)) rfl ?_
          refine r_aload_n hB 0 rfl (by decide +kernel : decode cX11_send 72 = .ok (.aload_n 0, 1)) rfl ?_
          refine r_gR hB cf11 0 (by decide) (own := "PulseRemote") rfl (Or.inl k_395) (by decide +kernel) (by decide +kernel : decode cX11_send 73 = .ok (.getfield 12, 3)) hf (fun x73 hf => ?_)
          refine r_iload_n hB 1 rfl (by decide +kernel : decode cX11_send 76 = .ok (.iload_n 1, 1)) rfl ?_
          refine r_cVr hB [.int l1] [.ref (b + l0)] cf7 (own := "PulseRemote") rfl cmX7_trainAt imX7_trainAt (Or.inl k_488) (by decide) rfl rfl rfl (Nat.le_of_ble_eq_true rfl) (by decide +kernel : decode cX11_send 77 = .ok (.invokevirtual 159, 3)) (fun z hz => m_X7_trainAt _ _ _ _ hz) rfl hf (fun z77 hf => ?_)
          refine r_iload hB 4 rfl (by decide +kernel : decode cX11_send 80 = .ok (.iload 4, 2)) ?_
          refine r_cVi hB [.ref (b + z77.1), .int l4] [] cf11 (own := "PulseRemote") rfl cmX11_appendScratch imX11_appendScratch (Or.inl k_895) (by decide) rfl rfl rfl (Nat.le_of_ble_eq_true rfl) (by decide +kernel : decode cX11_send 82 = .ok (.invokevirtual 252, 3)) (fun z hz => m_X11_appendScratch _ _ _ _ hz) rfl hf (fun z82 hf => ?_)
          obtain rfl := Option.some.inj hf
          obtain ⟨rfl, rfl⟩ := hk
          exact r_iret hB (by decide +kernel : decode cX11_send 85 = .ok (.ireturn, 1))
theorem m_X11_send (l : Launch) (D : va_G) (cy : Nat → ClassId) (b : Nat) {l0 : Nat} {l1 : Int32} {l2 : Int32} {l3 : Int32} {l4 : Int32} {μ : MS} {z : Int32 × MS} (hf : f_X11_send l0 l1 l2 l3 l4 μ = some z) : Met l yX11_send (.code yX11_send cX11_send 5 (some .int) :: GW) rmX11_send (Pw D cy b [.ref (b + l0), .int l1, .int l2, .int l3, .int l4] μ) (Qw D cy b (some (.int z.1)) (z.2)) rmX11_send.cells rmX11_send.slots (fun q => b ≤ q) :=
  met_of (by decide) (Nat.le_of_ble_eq_true rfl) (fun X hB _ => (t_X11_send_0 hB hf ⟨rfl, rfl⟩))
-- PulseRemote$Protocol.writeShortFrame(LPulseRemote$Train;)V
set_option maxHeartbeats 4000000 in
set_option maxRecDepth 100000 in
theorem t_X6_writeShortFrame_0 {X : BX} {D : va_G} {cy : Nat → ClassId} {b : Nat} {r : Option Value} {μ' : MS} (hB : BB X D cy b yX6_writeShortFrame cX6_writeShortFrame 2 none rmX6_writeShortFrame) {l0 : Nat} {l1 : Nat} {μ : MS} {z : MS} (hf : f_X6_writeShortFrame l0 l1 μ = some z) (hk : (fun z : MS => r = none ∧ μ' = z) z) : WW X D cy b r μ' 2 0 0 0 [(0, .ref (b + l0)), (1, .ref (b + l1))] [] μ := by
  unfold f_X6_writeShortFrame at hf
  refine r_aload_n hB 1 rfl (by decide +kernel : decode cX6_writeShortFrame 0 = .ok (.aload_n 1, 1)) rfl ?_
  refine r_iconst hB (v := 0) (by decide +kernel : decode cX6_writeShortFrame 1 = .ok (.iconst 0, 1)) (by decide +kernel) ?_
  refine r_pI hB cf10 1 (by decide) (own := "PulseRemote$Protocol") rfl (Or.inr ⟨_, k_141⟩) (Or.inl rfl) rfl (by decide +kernel : decode cX6_writeShortFrame 2 = .ok (.putfield 51, 3)) hf (fun m2 hf => ?_)
  refine r_aload_n hB 1 rfl (by decide +kernel : decode cX6_writeShortFrame 5 = .ok (.aload_n 1, 1)) rfl ?_
  refine r_aload_n hB 0 rfl (by decide +kernel : decode cX6_writeShortFrame 6 = .ok (.aload_n 0, 1)) rfl ?_
  refine r_gI hB cf6 1 (by decide) (own := "PulseRemote$Protocol") rfl (Or.inl k_66) (by decide +kernel) (by decide +kernel : decode cX6_writeShortFrame 7 = .ok (.getfield 24, 3)) hf (fun x7 hf => ?_)
  refine r_cVv hB [.int x7] [] cf10 (own := "PulseRemote$Protocol") rfl cmX10_put imX10_put (Or.inl k_593) (by decide) rfl rfl rfl (Nat.le_of_ble_eq_true rfl) (by decide +kernel : decode cX6_writeShortFrame 10 = .ok (.invokevirtual 56, 3)) (fun z hz => m_X10_put _ _ _ _ hz) rfl hf (fun z10 hf => ?_)
  refine r_aload_n hB 1 rfl (by decide +kernel : decode cX6_writeShortFrame 13 = .ok (.aload_n 1, 1)) rfl ?_
  refine r_aload_n hB 0 rfl (by decide +kernel : decode cX6_writeShortFrame 14 = .ok (.aload_n 0, 1)) rfl ?_
  refine r_gI hB cf6 2 (by decide) (own := "PulseRemote$Protocol") rfl (Or.inl k_69) (by decide +kernel) (by decide +kernel : decode cX6_writeShortFrame 15 = .ok (.getfield 27, 3)) hf (fun x15 hf => ?_)
  refine r_iconst hB (v := 2) (by decide +kernel : decode cX6_writeShortFrame 18 = .ok (.iconst 2, 1)) (by decide +kernel) ?_
  refine r_idiv hB (by decide +kernel : decode cX6_writeShortFrame 19 = .ok (.idiv, 1)) hf (fun v19 hf => ?_)
  refine r_cVv hB [.int v19] [] cf10 (own := "PulseRemote$Protocol") rfl cmX10_put imX10_put (Or.inl k_593) (by decide) rfl rfl rfl (Nat.le_of_ble_eq_true rfl) (by decide +kernel : decode cX6_writeShortFrame 20 = .ok (.invokevirtual 56, 3)) (fun z hz => m_X10_put _ _ _ _ hz) rfl hf (fun z20 hf => ?_)
  refine r_aload_n hB 1 rfl (by decide +kernel : decode cX6_writeShortFrame 23 = .ok (.aload_n 1, 1)) rfl ?_
  refine r_aload_n hB 0 rfl (by decide +kernel : decode cX6_writeShortFrame 24 = .ok (.aload_n 0, 1)) rfl ?_
  refine r_gI hB cf6 3 (by decide) (own := "PulseRemote$Protocol") rfl (Or.inl k_72) (by decide +kernel) (by decide +kernel : decode cX6_writeShortFrame 25 = .ok (.getfield 30, 3)) hf (fun x25 hf => ?_)
  refine r_cVv hB [.int x25] [] cf10 (own := "PulseRemote$Protocol") rfl cmX10_put imX10_put (Or.inl k_593) (by decide) rfl rfl rfl (Nat.le_of_ble_eq_true rfl) (by decide +kernel : decode cX6_writeShortFrame 28 = .ok (.invokevirtual 56, 3)) (fun z hz => m_X10_put _ _ _ _ hz) rfl hf (fun z28 hf => ?_)
  obtain rfl := Option.some.inj hf
  obtain ⟨rfl, rfl⟩ := hk
  exact r_vret hB (by decide +kernel : decode cX6_writeShortFrame 31 = .ok (.return_, 1))
theorem m_X6_writeShortFrame (l : Launch) (D : va_G) (cy : Nat → ClassId) (b : Nat) {l0 : Nat} {l1 : Nat} {μ : MS} {z : MS} (hf : f_X6_writeShortFrame l0 l1 μ = some z) : Met l yX6_writeShortFrame (.code yX6_writeShortFrame cX6_writeShortFrame 2 none :: GW) rmX6_writeShortFrame (Pw D cy b [.ref (b + l0), .ref (b + l1)] μ) (Qw D cy b (none) (z)) rmX6_writeShortFrame.cells rmX6_writeShortFrame.slots (fun q => b ≤ q) :=
  met_of (by decide) (Nat.le_of_ble_eq_true rfl) (fun X hB _ => (t_X6_writeShortFrame_0 hB hf ⟨rfl, rfl⟩))
-- PulseRemote.sendShort(III)I
set_option maxHeartbeats 4000000 in
set_option maxRecDepth 100000 in
theorem t_X11_sendShort_0 {X : BX} {D : va_G} {cy : Nat → ClassId} {b : Nat} {r : Option Value} {μ' : MS} (hB : BB X D cy b yX11_sendShort cX11_sendShort 4 (some .int) rmX11_sendShort) {l0 : Nat} {l1 : Int32} {l2 : Int32} {l3 : Int32} {μ : MS} {z : (Int32 × MS)} (hf : f_X11_sendShort l0 l1 l2 l3 μ = some z) (hk : (fun z : Int32 × MS => r = some (.int z.1) ∧ μ' = z.2) z) : WW X D cy b r μ' 4 0 0 0 [(0, .ref (b + l0)), (1, .int l1), (2, .int l2), (3, .int l3)] [] μ := by
  unfold f_X11_sendShort at hf
  refine r_iload_n hB 1 rfl (by decide +kernel : decode cX11_sendShort 0 = .ok (.iload_n 1, 1)) rfl ?_
  refine r_cSi hB [.int l1] [] (own := "PulseRemote") rfl cmX11_isSlot smX11_isSlot (Or.inl ⟨rfl, k_485⟩) (by decide) rfl rfl rfl (Nat.le_of_ble_eq_true rfl) (by decide +kernel : decode cX11_sendShort 1 = .ok (.invokestatic 156, 3)) (fun z hz => m_X11_isSlot _ _ _ _ hz) rfl hf (fun z1 hf => ?_)
  refine r_if_eq hB (tgt := 31) (by decide +kernel : decode cX11_sendShort 4 = .ok (.ifCond .eq 27, 3)) (by decide) hf (fun _ hf => ?_) (fun _ hf => ?_)
  · refine r_iconst hB (v := (-1)) (by decide +kernel : decode cX11_sendShort 31 = .ok (.iconst (-1), 1)) (by decide +kernel) ?_
    obtain rfl := Option.some.inj hf
    obtain ⟨rfl, rfl⟩ := hk
    exact r_iret hB (by decide +kernel : decode cX11_sendShort 32 = .ok (.ireturn, 1))
  · refine r_aload_n hB 0 rfl (by decide +kernel : decode cX11_sendShort 7 = .ok (.aload_n 0, 1)) rfl ?_
    refine r_gR hB cf11 0 (by decide) (own := "PulseRemote") rfl (Or.inl k_395) (by decide +kernel) (by decide +kernel : decode cX11_sendShort 8 = .ok (.getfield 12, 3)) hf (fun x8 hf => ?_)
    refine r_gR hB cf7 0 (by decide) (own := "PulseRemote") rfl (Or.inr ⟨_, k_150⟩) (by decide +kernel) (by decide +kernel : decode cX11_sendShort 11 = .ok (.getfield 84, 3)) hf (fun x11 hf => ?_)
    refine r_iload_n hB 2 rfl (by decide +kernel : decode cX11_sendShort 14 = .ok (.iload_n 2, 1)) rfl ?_
    refine r_cVi hB [.int l2] [] cf8 (own := "PulseRemote") rfl cmX8_hasProtocol imX8_hasProtocol (Or.inl k_729) (by decide) rfl rfl rfl (Nat.le_of_ble_eq_true rfl) (by decide +kernel : decode cX11_sendShort 15 = .ok (.invokevirtual 98, 3)) (fun z hz => m_X8_hasProtocol _ _ _ _ hz) rfl hf (fun z15 hf => ?_)
    refine r_if_eq hB (tgt := 31) (by decide +kernel : decode cX11_sendShort 18 = .ok (.ifCond .eq 13, 3)) (by decide) hf (fun _ hf => ?_) (fun _ hf => ?_)
    · refine r_iconst hB (v := (-1)) (by decide +kernel : decode cX11_sendShort 31 = .ok (.iconst (-1), 1)) (by decide +kernel) ?_
      obtain rfl := Option.some.inj hf
      obtain ⟨rfl, rfl⟩ := hk
      exact r_iret hB (by decide +kernel : decode cX11_sendShort 32 = .ok (.ireturn, 1))
    · refine r_iload_n hB 3 rfl (by decide +kernel : decode cX11_sendShort 21 = .ok (.iload_n 3, 1)) rfl ?_
      refine r_iconst hB (v := 1) (by decide +kernel : decode cX11_sendShort 22 = .ok (.iconst 1, 1)) (by decide +kernel) ?_
      refine r_ldc hB (v := 60000) (own := "PulseRemote") rfl k_836 (by decide +kernel : decode cX11_sendShort 23 = .ok (.ldc 222, 2)) ?_
      refine r_cSi hB [.int l3, .int 1, .int 60000] [] (own := "PulseRemote") rfl cmX11_inRange smX11_inRange (Or.inl ⟨rfl, k_440⟩) (by decide) rfl rfl rfl (Nat.le_of_ble_eq_true rfl) (by decide +kernel : decode cX11_sendShort 25 = .ok (.invokestatic 80, 3)) (fun z hz => m_X11_inRange _ _ _ _ hz) rfl hf (fun z25 hf => ?_)
      refine r_if_ne hB (tgt := 33) (by decide +kernel : decode cX11_sendShort 28 = .ok (.ifCond .ne 5, 3)) (by decide) hf (fun _ hf => ?_) (fun _ hf => ?_)
      · refine r_iconst hB (v := (-1)) (by decide +kernel : decode cX11_sendShort 31 = .ok (.iconst (-1), 1)) (by decide +kernel) ?_
        obtain rfl := Option.some.inj hf
        obtain ⟨rfl, rfl⟩ := hk
        exact r_iret hB (by decide +kernel : decode cX11_sendShort 32 = .ok (.ireturn, 1))
      · refine r_aload_n hB 0 rfl (by decide +kernel : decode cX11_sendShort 33 = .ok (.aload_n 0, 1)) rfl ?_
        refine r_gR hB cf11 0 (by decide) (own := "PulseRemote") rfl (Or.inl k_395) (by decide +kernel) (by decide +kernel : decode cX11_sendShort 34 = .ok (.getfield 12, 3)) hf (fun x34 hf => ?_)
        refine r_gR hB cf7 0 (by decide) (own := "PulseRemote") rfl (Or.inr ⟨_, k_150⟩) (by decide +kernel) (by decide +kernel : decode cX11_sendShort 37 = .ok (.getfield 84, 3)) hf (fun x37 hf => ?_)
        refine r_iload_n hB 2 rfl (by decide +kernel : decode cX11_sendShort 40 = .ok (.iload_n 2, 1)) rfl ?_
        refine r_cVr hB [.int l2] [] cf8 (own := "PulseRemote") rfl cmX8_protocolAt imX8_protocolAt (Or.inl k_588) (by decide) rfl rfl rfl (Nat.le_of_ble_eq_true rfl) (by decide +kernel : decode cX11_sendShort 41 = .ok (.invokevirtual 102, 3)) (fun z hz => m_X8_protocolAt _ _ _ _ hz) rfl hf (fun z41 hf => ?_)
        refine r_aload_n hB 0 rfl (by decide +kernel : decode cX11_sendShort 44 = .ok (.aload_n 0, 1)) rfl ?_
        refine r_gR hB cf11 5 (by decide) (own := "PulseRemote") rfl (Or.inl k_400) (by decide +kernel) (by decide +kernel : decode cX11_sendShort 45 = .ok (.getfield 37, 3)) hf (fun x45 hf => ?_)
        refine r_cVv hB [.ref (b + x45)] [] cf6 (own := "PulseRemote") rfl cmX6_writeShortFrame imX6_writeShortFrame (Or.inl k_609) (by decide) rfl rfl rfl (Nat.le_of_ble_eq_true rfl) (by decide +kernel : decode cX11_sendShort 48 = .ok (.invokevirtual 256, 3)) (fun z hz => m_X6_writeShortFrame _ _ _ _ hz) rfl hf (fun z48 hf => ?_)
        refine r_aload_n hB 0 rfl (by decide +kernel : decode cX11_sendShort 51 = .ok (.aload_n 0, 1)) rfl ?_
        refine r_aload_n hB 0 rfl (by decide +kernel : decode cX11_sendShort 52 = .ok (.aload_n 0, 1)) rfl ?_
        refine r_gR hB cf11 0 (by decide) (own := "PulseRemote") rfl (Or.inl k_395) (by decide +kernel) (by decide +kernel : decode cX11_sendShort 53 = .ok (.getfield 12, 3)) hf (fun x53 hf => ?_)
        refine r_iload_n hB 1 rfl (by decide +kernel : decode cX11_sendShort 56 = .ok (.iload_n 1, 1)) rfl ?_
        refine r_cVr hB [.int l1] [.ref (b + l0)] cf7 (own := "PulseRemote") rfl cmX7_trainAt imX7_trainAt (Or.inl k_488) (by decide) rfl rfl rfl (Nat.le_of_ble_eq_true rfl) (by decide +kernel : decode cX11_sendShort 57 = .ok (.invokevirtual 159, 3)) (fun z hz => m_X7_trainAt _ _ _ _ hz) rfl hf (fun z57 hf => ?_)
        refine r_iload_n hB 3 rfl (by decide +kernel : decode cX11_sendShort 60 = .ok (.iload_n 3, 1)) rfl ?_
        refine r_cVi hB [.ref (b + z57.1), .int l3] [] cf11 (own := "PulseRemote") rfl cmX11_appendScratch imX11_appendScratch (Or.inl k_895) (by decide) rfl rfl rfl (Nat.le_of_ble_eq_true rfl) (by decide +kernel : decode cX11_sendShort 61 = .ok (.invokevirtual 252, 3)) (fun z hz => m_X11_appendScratch _ _ _ _ hz) rfl hf (fun z61 hf => ?_)
        obtain rfl := Option.some.inj hf
        obtain ⟨rfl, rfl⟩ := hk
        exact r_iret hB (by decide +kernel : decode cX11_sendShort 64 = .ok (.ireturn, 1))
theorem m_X11_sendShort (l : Launch) (D : va_G) (cy : Nat → ClassId) (b : Nat) {l0 : Nat} {l1 : Int32} {l2 : Int32} {l3 : Int32} {μ : MS} {z : Int32 × MS} (hf : f_X11_sendShort l0 l1 l2 l3 μ = some z) : Met l yX11_sendShort (.code yX11_sendShort cX11_sendShort 4 (some .int) :: GW) rmX11_sendShort (Pw D cy b [.ref (b + l0), .int l1, .int l2, .int l3] μ) (Qw D cy b (some (.int z.1)) (z.2)) rmX11_sendShort.cells rmX11_sendShort.slots (fun q => b ≤ q) :=
  met_of (by decide) (Nat.le_of_ble_eq_true rfl) (fun X hB _ => (t_X11_sendShort_0 hB hf ⟨rfl, rfl⟩))
-- PulseRemote.clear(I)I
set_option maxHeartbeats 4000000 in
set_option maxRecDepth 100000 in
theorem t_X11_clear_0 {X : BX} {D : va_G} {cy : Nat → ClassId} {b : Nat} {r : Option Value} {μ' : MS} (hB : BB X D cy b yX11_clear cX11_clear 4 (some .int) rmX11_clear) {l0 : Nat} {l1 : Int32} {μ : MS} {z : (Int32 × MS)} (hf : f_X11_clear l0 l1 μ = some z) (hk : (fun z : Int32 × MS => r = some (.int z.1) ∧ μ' = z.2) z) : WW X D cy b r μ' 4 0 0 0 [(0, .ref (b + l0)), (1, .int l1)] [] μ := by
  unfold f_X11_clear at hf
  refine r_iload_n hB 1 rfl (by decide +kernel : decode cX11_clear 0 = .ok (.iload_n 1, 1)) rfl ?_
  refine r_cSi hB [.int l1] [] (own := "PulseRemote") rfl cmX11_isSlot smX11_isSlot (Or.inl ⟨rfl, k_485⟩) (by decide) rfl rfl rfl (Nat.le_of_ble_eq_true rfl) (by decide +kernel : decode cX11_clear 1 = .ok (.invokestatic 156, 3)) (fun z hz => m_X11_isSlot _ _ _ _ hz) rfl hf (fun z1 hf => ?_)
  refine r_if_ne hB (tgt := 9) (by decide +kernel : decode cX11_clear 4 = .ok (.ifCond .ne 5, 3)) (by decide) hf (fun _ hf => ?_) (fun _ hf => ?_)
  · refine r_iconst hB (v := (-1)) (by decide +kernel : decode cX11_clear 7 = .ok (.iconst (-1), 1)) (by decide +kernel) ?_
    obtain rfl := Option.some.inj hf
    obtain ⟨rfl, rfl⟩ := hk
    exact r_iret hB (by decide +kernel : decode cX11_clear 8 = .ok (.ireturn, 1))
  · refine r_aload_n hB 0 rfl (by decide +kernel : decode cX11_clear 9 = .ok (.aload_n 0, 1)) rfl ?_
    refine r_cVv hB [] [] cf11 (own := "PulseRemote") rfl cmX11_saveState imX11_saveState (Or.inl k_443) (by decide) rfl rfl rfl (Nat.le_of_ble_eq_true rfl) (by decide +kernel : decode cX11_clear 10 = .ok (.invokevirtual 91, 3)) (fun z hz => m_X11_saveState _ _ _ _ hz) rfl hf (fun z10 hf => ?_)
    refine r_aload_n hB 0 rfl (by decide +kernel : decode cX11_clear 13 = .ok (.aload_n 0, 1)) rfl ?_
    refine r_gR hB cf11 0 (by decide) (own := "PulseRemote") rfl (Or.inl k_395) (by decide +kernel) (by decide +kernel : decode cX11_clear 14 = .ok (.getfield 12, 3)) hf (fun x14 hf => ?_)
    refine r_iload_n hB 1 rfl (by decide +kernel : decode cX11_clear 17 = .ok (.iload_n 1, 1)) rfl ?_
    refine r_cVr hB [.int l1] [] cf7 (own := "PulseRemote") rfl cmX7_trainAt imX7_trainAt (Or.inl k_488) (by decide) rfl rfl rfl (Nat.le_of_ble_eq_true rfl) (by decide +kernel : decode cX11_clear 18 = .ok (.invokevirtual 159, 3)) (fun z hz => m_X7_trainAt _ _ _ _ hz) rfl hf (fun z18 hf => ?_)
    refine r_astore_n hB (by decide +kernel : decode cX11_clear 21 = .ok (.astore_n 2, 1)) rfl (by decide) rfl ?_
    refine ww_lv (lv' := [(2, .ref (b + z18.1)), (0, .ref (b + l0)), (1, .int l1)]) rfl ?_
    refine r_aload_n hB 0 rfl (by decide +kernel : decode cX11_clear 22 = .ok (.aload_n 2, 1)) rfl ?_
    refine r_gI hB cf10 1 (by decide) (own := "PulseRemote") rfl (Or.inr ⟨_, k_142⟩) (by decide +kernel) (by decide +kernel : decode cX11_clear 23 = .ok (.getfield 244, 3)) hf (fun x23 hf => ?_)
    refine r_istore_n hB (by decide +kernel : decode cX11_clear 26 = .ok (.istore_n 3, 1)) rfl (by decide) rfl ?_
    refine ww_lv (lv' := [(3, .int x23), (2, .ref (b + z18.1)), (0, .ref (b + l0)), (1, .int l1)]) rfl ?_
    refine r_aload_n hB 1 rfl (by decide +kernel : decode cX11_clear 27 = .ok (.aload_n 2, 1)) rfl ?_
    refine r_iconst hB (v := 0) (by decide +kernel : decode cX11_clear 28 = .ok (.iconst 0, 1)) (by decide +kernel) ?_
    refine r_pI hB cf10 1 (by decide) (own := "PulseRemote") rfl (Or.inr ⟨_, k_142⟩) (Or.inl rfl) rfl (by decide +kernel : decode cX11_clear 29 = .ok (.putfield 244, 3)) hf (fun m29 hf => ?_)
    refine r_iload_n hB 0 rfl (by decide +kernel : decode cX11_clear 32 = .ok (.iload_n 3, 1)) rfl ?_
    obtain rfl := Option.some.inj hf
    obtain ⟨rfl, rfl⟩ := hk
    exact r_iret hB (by decide +kernel : decode cX11_clear 33 = .ok (.ireturn, 1))
theorem m_X11_clear (l : Launch) (D : va_G) (cy : Nat → ClassId) (b : Nat) {l0 : Nat} {l1 : Int32} {μ : MS} {z : Int32 × MS} (hf : f_X11_clear l0 l1 μ = some z) : Met l yX11_clear (.code yX11_clear cX11_clear 4 (some .int) :: GW) rmX11_clear (Pw D cy b [.ref (b + l0), .int l1] μ) (Qw D cy b (some (.int z.1)) (z.2)) rmX11_clear.cells rmX11_clear.slots (fun q => b ≤ q) :=
  met_of (by decide) (Nat.le_of_ble_eq_true rfl) (fun X hB _ => (t_X11_clear_0 hB hf ⟨rfl, rfl⟩))
-- PulseRemote$Collision.lay(LPulseRemote$Train;LPulseRemote$Train;)V
set_option maxHeartbeats 4000000 in
set_option maxRecDepth 100000 in
theorem t_X1_lay_0 {X : BX} {D : va_G} {cy : Nat → ClassId} {b : Nat} {r : Option Value} {μ' : MS} (hB : BB X D cy b yX1_lay cX1_lay 3 none rmX1_lay) {l0 : Nat} {l1 : Nat} {l2 : Nat} {μ : MS} {z : MS} (hf : f_X1_lay l0 l1 l2 μ = some z) (hk : (fun z : MS => r = none ∧ μ' = z) z) : WW X D cy b r μ' 3 0 0 0 [(0, .ref (b + l0)), (1, .ref (b + l1)), (2, .ref (b + l2))] [] μ := by
  unfold f_X1_lay at hf
  refine r_aload_n hB 0 rfl (by decide +kernel : decode cX1_lay 0 = .ok (.aload_n 0, 1)) rfl ?_
  refine r_gR hB cf1 0 (by decide) (own := "PulseRemote$Collision") rfl (Or.inl k_364) (by decide +kernel) (by decide +kernel : decode cX1_lay 1 = .ok (.getfield 12, 3)) hf (fun x1 hf => ?_)
  refine r_aload_n hB 1 rfl (by decide +kernel : decode cX1_lay 4 = .ok (.aload_n 1, 1)) rfl ?_
  refine r_cVv hB [.ref (b + l1)] [] cf10 (own := "PulseRemote$Collision") rfl cmX10_copyFrom imX10_copyFrom (Or.inl k_855) (by decide) rfl rfl rfl (Nat.le_of_ble_eq_true rfl) (by decide +kernel : decode cX1_lay 5 = .ok (.invokevirtual 21, 3)) (fun z hz => m_X10_copyFrom _ _ _ _ hz) rfl hf (fun z5 hf => ?_)
  refine r_aload_n hB 0 rfl (by decide +kernel : decode cX1_lay 8 = .ok (.aload_n 0, 1)) rfl ?_
  refine r_gR hB cf1 1 (by decide) (own := "PulseRemote$Collision") rfl (Or.inl k_365) (by decide +kernel) (by decide +kernel : decode cX1_lay 9 = .ok (.getfield 18, 3)) hf (fun x9 hf => ?_)
  refine r_aload_n hB 2 rfl (by decide +kernel : decode cX1_lay 12 = .ok (.aload_n 2, 1)) rfl ?_
  refine r_cVv hB [.ref (b + l2)] [] cf10 (own := "PulseRemote$Collision") rfl cmX10_copyFrom imX10_copyFrom (Or.inl k_855) (by decide) rfl rfl rfl (Nat.le_of_ble_eq_true rfl) (by decide +kernel : decode cX1_lay 13 = .ok (.invokevirtual 21, 3)) (fun z hz => m_X10_copyFrom _ _ _ _ hz) rfl hf (fun z13 hf => ?_)
  obtain rfl := Option.some.inj hf
  obtain ⟨rfl, rfl⟩ := hk
  exact r_vret hB (by decide +kernel : decode cX1_lay 16 = .ok (.return_, 1))
theorem m_X1_lay (l : Launch) (D : va_G) (cy : Nat → ClassId) (b : Nat) {l0 : Nat} {l1 : Nat} {l2 : Nat} {μ : MS} {z : MS} (hf : f_X1_lay l0 l1 l2 μ = some z) : Met l yX1_lay (.code yX1_lay cX1_lay 3 none :: GW) rmX1_lay (Pw D cy b [.ref (b + l0), .ref (b + l1), .ref (b + l2)] μ) (Qw D cy b (none) (z)) rmX1_lay.cells rmX1_lay.slots (fun q => b ≤ q) :=
  met_of (by decide) (Nat.le_of_ble_eq_true rfl) (fun X hB _ => (t_X1_lay_0 hB hf ⟨rfl, rfl⟩))
-- PulseRemote$Collision.takeMark()V
set_option maxHeartbeats 4000000 in
set_option maxRecDepth 100000 in
theorem t_X1_takeMark_139 {X : BX} {D : va_G} {cy : Nat → ClassId} {b : Nat} {r : Option Value} {μ' : MS} (hB : BB X D cy b yX1_takeMark cX1_takeMark 3 none rmX1_takeMark) {l0 : Nat} {l2 : Int32} {μ : MS} {z : MS} (hf : f_X1_takeMark_139 l0 l2 μ = some z) (hk : (fun z : MS => r = none ∧ μ' = z) z) : WW X D cy b r μ' 3 0 0 139 [(0, .ref (b + l0)), (2, .int l2)] [] μ := by
  unfold f_X1_takeMark_139 at hf
  refine r_iload_n hB 1 rfl (by decide +kernel : decode cX1_takeMark 139 = .ok (.iload_n 2, 1)) rfl ?_
  refine r_if_eq hB (tgt := 203) (by decide +kernel : decode cX1_takeMark 140 = .ok (.ifCond .eq 63, 3)) (by decide) hf (fun _ hf => ?_) (fun _ hf => ?_)
  · obtain rfl := Option.some.inj hf
    obtain ⟨rfl, rfl⟩ := hk
    exact r_vret hB (by decide +kernel : decode cX1_takeMark 203 = .ok (.return_, 1))
  · refine r_aload_n hB 0 rfl (by decide +kernel : decode cX1_takeMark 143 = .ok (.aload_n 0, 1)) rfl ?_
    refine r_aload_n hB 0 rfl (by decide +kernel : decode cX1_takeMark 144 = .ok (.aload_n 0, 1)) rfl ?_
    refine r_gI hB cf1 5 (by decide) (own := "PulseRemote$Collision") rfl (Or.inl k_369) (by decide +kernel) (by decide +kernel : decode cX1_takeMark 145 = .ok (.getfield 35, 3)) hf (fun x145 hf => ?_)
    refine r_pI hB cf1 7 (by decide) (own := "PulseRemote$Collision") rfl (Or.inl k_371) (Or.inl rfl) rfl (by decide +kernel : decode cX1_takeMark 148 = .ok (.putfield 51, 3)) hf (fun m148 hf => ?_)
    refine r_aload_n hB 0 rfl (by decide +kernel : decode cX1_takeMark 151 = .ok (.aload_n 0, 1)) rfl ?_
    refine r_aload_n hB 0 rfl (by decide +kernel : decode cX1_takeMark 152 = .ok (.aload_n 0, 1)) rfl ?_
    refine r_gI hB cf1 7 (by decide) (own := "PulseRemote$Collision") rfl (Or.inl k_371) (by decide +kernel) (by decide +kernel : decode cX1_takeMark 153 = .ok (.getfield 51, 3)) hf (fun x153 hf => ?_)
    refine r_aload_n hB 0 rfl (by decide +kernel : decode cX1_takeMark 156 = .ok (.aload_n 0, 1)) rfl ?_
    refine r_gR hB cf1 1 (by decide) (own := "PulseRemote$Collision") rfl (Or.inl k_365) (by decide +kernel) (by decide +kernel : decode cX1_takeMark 157 = .ok (.getfield 18, 3)) hf (fun x157 hf => ?_)
    refine r_aload_n hB 0 rfl (by decide +kernel : decode cX1_takeMark 160 = .ok (.aload_n 0, 1)) rfl ?_
    refine r_gI hB cf1 4 (by decide) (own := "PulseRemote$Collision") rfl (Or.inl k_368) (by decide +kernel) (by decide +kernel : decode cX1_takeMark 161 = .ok (.getfield 32, 3)) hf (fun x161 hf => ?_)
    refine r_cVi hB [.int x161] [.int x153, .ref (b + l0)] cf10 (own := "PulseRemote$Collision") rfl cmX10_at imX10_at (Or.inl k_864) (by decide) rfl rfl rfl (Nat.le_of_ble_eq_true rfl) (by decide +kernel : decode cX1_takeMark 164 = .ok (.invokevirtual 54, 3)) (fun z hz => m_X10_at _ _ _ _ hz) rfl hf (fun z164 hf => ?_)
    refine r_iadd hB (by decide +kernel : decode cX1_takeMark 167 = .ok (.iadd, 1)) ?_
    refine r_pI hB cf1 8 (by decide) (own := "PulseRemote$Collision") rfl (Or.inl k_372) (Or.inl rfl) rfl (by decide +kernel : decode cX1_takeMark 168 = .ok (.putfield 58, 3)) hf (fun m168 hf => ?_)
    refine r_aload_n hB 0 rfl (by decide +kernel : decode cX1_takeMark 171 = .ok (.aload_n 0, 1)) rfl ?_
    refine r_aload_n hB 0 rfl (by decide +kernel : decode cX1_takeMark 172 = .ok (.aload_n 0, 1)) rfl ?_
    refine r_gI hB cf1 8 (by decide) (own := "PulseRemote$Collision") rfl (Or.inl k_372) (by decide +kernel) (by decide +kernel : decode cX1_takeMark 173 = .ok (.getfield 58, 3)) hf (fun x173 hf => ?_)
    refine r_aload_n hB 0 rfl (by decide +kernel : decode cX1_takeMark 176 = .ok (.aload_n 0, 1)) rfl ?_
    refine r_gR hB cf1 1 (by decide) (own := "PulseRemote$Collision") rfl (Or.inl k_365) (by decide +kernel) (by decide +kernel : decode cX1_takeMark 177 = .ok (.getfield 18, 3)) hf (fun x177 hf => ?_)
    refine r_aload_n hB 0 rfl (by decide +kernel : decode cX1_takeMark 180 = .ok (.aload_n 0, 1)) rfl ?_
    refine r_gI hB cf1 4 (by decide) (own := "PulseRemote$Collision") rfl (Or.inl k_368) (by decide +kernel) (by decide +kernel : decode cX1_takeMark 181 = .ok (.getfield 32, 3)) hf (fun x181 hf => ?_)
    refine r_iconst hB (v := 1) (by decide +kernel : decode cX1_takeMark 184 = .ok (.iconst 1, 1)) (by decide +kernel) ?_
    refine r_iadd hB (by decide +kernel : decode cX1_takeMark 185 = .ok (.iadd, 1)) ?_
    refine r_cVi hB [.int (x181 + 1)] [.int x173, .ref (b + l0)] cf10 (own := "PulseRemote$Collision") rfl cmX10_at imX10_at (Or.inl k_864) (by decide) rfl rfl rfl (Nat.le_of_ble_eq_true rfl) (by decide +kernel : decode cX1_takeMark 186 = .ok (.invokevirtual 54, 3)) (fun z hz => m_X10_at _ _ _ _ hz) rfl hf (fun z186 hf => ?_)
    refine r_iadd hB (by decide +kernel : decode cX1_takeMark 189 = .ok (.iadd, 1)) ?_
    refine r_pI hB cf1 5 (by decide) (own := "PulseRemote$Collision") rfl (Or.inl k_369) (Or.inl rfl) rfl (by decide +kernel : decode cX1_takeMark 190 = .ok (.putfield 35, 3)) hf (fun m190 hf => ?_)
    refine r_aload_n hB 0 rfl (by decide +kernel : decode cX1_takeMark 193 = .ok (.aload_n 0, 1)) rfl ?_
    refine r_dup hB (by decide +kernel : decode cX1_takeMark 194 = .ok (.dup, 1)) rfl ?_
    refine r_gI hB cf1 4 (by decide) (own := "PulseRemote$Collision") rfl (Or.inl k_368) (by decide +kernel) (by decide +kernel : decode cX1_takeMark 195 = .ok (.getfield 32, 3)) hf (fun x195 hf => ?_)
    refine r_iconst hB (v := 2) (by decide +kernel : decode cX1_takeMark 198 = .ok (.iconst 2, 1)) (by decide +kernel) ?_
    refine r_iadd hB (by decide +kernel : decode cX1_takeMark 199 = .ok (.iadd, 1)) ?_
    refine r_pI hB cf1 4 (by decide) (own := "PulseRemote$Collision") rfl (Or.inl k_368) (Or.inl rfl) rfl (by decide +kernel : decode cX1_takeMark 200 = .ok (.putfield 32, 3)) hf (fun m200 hf => ?_)
    obtain rfl := Option.some.inj hf
    obtain ⟨rfl, rfl⟩ := hk
    exact r_vret hB (by decide +kernel : decode cX1_takeMark 203 = .ok (.return_, 1))
set_option maxHeartbeats 4000000 in
set_option maxRecDepth 100000 in
theorem t_X1_takeMark_76 {X : BX} {D : va_G} {cy : Nat → ClassId} {b : Nat} {r : Option Value} {μ' : MS} (hB : BB X D cy b yX1_takeMark cX1_takeMark 3 none rmX1_takeMark) {l0 : Nat} {μ : MS} {z : MS} (hf : f_X1_takeMark_76 l0 μ = some z) (hk : (fun z : MS => r = none ∧ μ' = z) z) : WW X D cy b r μ' 3 0 0 76 [(0, .ref (b + l0))] [] μ := by
  unfold f_X1_takeMark_76 at hf
  refine r_aload_n hB 0 rfl (by decide +kernel : decode cX1_takeMark 76 = .ok (.aload_n 0, 1)) rfl ?_
  refine r_aload_n hB 0 rfl (by decide +kernel : decode cX1_takeMark 77 = .ok (.aload_n 0, 1)) rfl ?_
  refine r_gI hB cf1 3 (by decide) (own := "PulseRemote$Collision") rfl (Or.inl k_367) (by decide +kernel) (by decide +kernel : decode cX1_takeMark 78 = .ok (.getfield 29, 3)) hf (fun x78 hf => ?_)
  refine r_pI hB cf1 7 (by decide) (own := "PulseRemote$Collision") rfl (Or.inl k_371) (Or.inl rfl) rfl (by decide +kernel : decode cX1_takeMark 81 = .ok (.putfield 51, 3)) hf (fun m81 hf => ?_)
  refine r_aload_n hB 0 rfl (by decide +kernel : decode cX1_takeMark 84 = .ok (.aload_n 0, 1)) rfl ?_
  refine r_aload_n hB 0 rfl (by decide +kernel : decode cX1_takeMark 85 = .ok (.aload_n 0, 1)) rfl ?_
  refine r_gI hB cf1 7 (by decide) (own := "PulseRemote$Collision") rfl (Or.inl k_371) (by decide +kernel) (by decide +kernel : decode cX1_takeMark 86 = .ok (.getfield 51, 3)) hf (fun x86 hf => ?_)
  refine r_aload_n hB 0 rfl (by decide +kernel : decode cX1_takeMark 89 = .ok (.aload_n 0, 1)) rfl ?_
  refine r_gR hB cf1 0 (by decide) (own := "PulseRemote$Collision") rfl (Or.inl k_364) (by decide +kernel) (by decide +kernel : decode cX1_takeMark 90 = .ok (.getfield 12, 3)) hf (fun x90 hf => ?_)
  refine r_aload_n hB 0 rfl (by decide +kernel : decode cX1_takeMark 93 = .ok (.aload_n 0, 1)) rfl ?_
  refine r_gI hB cf1 2 (by decide) (own := "PulseRemote$Collision") rfl (Or.inl k_366) (by decide +kernel) (by decide +kernel : decode cX1_takeMark 94 = .ok (.getfield 25, 3)) hf (fun x94 hf => ?_)
  refine r_cVi hB [.int x94] [.int x86, .ref (b + l0)] cf10 (own := "PulseRemote$Collision") rfl cmX10_at imX10_at (Or.inl k_864) (by decide) rfl rfl rfl (Nat.le_of_ble_eq_true rfl) (by decide +kernel : decode cX1_takeMark 97 = .ok (.invokevirtual 54, 3)) (fun z hz => m_X10_at _ _ _ _ hz) rfl hf (fun z97 hf => ?_)
  refine r_iadd hB (by decide +kernel : decode cX1_takeMark 100 = .ok (.iadd, 1)) ?_
  refine r_pI hB cf1 8 (by decide) (own := "PulseRemote$Collision") rfl (Or.inl k_372) (Or.inl rfl) rfl (by decide +kernel : decode cX1_takeMark 101 = .ok (.putfield 58, 3)) hf (fun m101 hf => ?_)
  refine r_aload_n hB 0 rfl (by decide +kernel : decode cX1_takeMark 104 = .ok (.aload_n 0, 1)) rfl ?_
  refine r_aload_n hB 0 rfl (by decide +kernel : decode cX1_takeMark 105 = .ok (.aload_n 0, 1)) rfl ?_
  refine r_gI hB cf1 8 (by decide) (own := "PulseRemote$Collision") rfl (Or.inl k_372) (by decide +kernel) (by decide +kernel : decode cX1_takeMark 106 = .ok (.getfield 58, 3)) hf (fun x106 hf => ?_)
  refine r_aload_n hB 0 rfl (by decide +kernel : decode cX1_takeMark 109 = .ok (.aload_n 0, 1)) rfl ?_
  refine r_gR hB cf1 0 (by decide) (own := "PulseRemote$Collision") rfl (Or.inl k_364) (by decide +kernel) (by decide +kernel : decode cX1_takeMark 110 = .ok (.getfield 12, 3)) hf (fun x110 hf => ?_)
  refine r_aload_n hB 0 rfl (by decide +kernel : decode cX1_takeMark 113 = .ok (.aload_n 0, 1)) rfl ?_
  refine r_gI hB cf1 2 (by decide) (own := "PulseRemote$Collision") rfl (Or.inl k_366) (by decide +kernel) (by decide +kernel : decode cX1_takeMark 114 = .ok (.getfield 25, 3)) hf (fun x114 hf => ?_)
  refine r_iconst hB (v := 1) (by decide +kernel : decode cX1_takeMark 117 = .ok (.iconst 1, 1)) (by decide +kernel) ?_
  refine r_iadd hB (by decide +kernel : decode cX1_takeMark 118 = .ok (.iadd, 1)) ?_
  refine r_cVi hB [.int (x114 + 1)] [.int x106, .ref (b + l0)] cf10 (own := "PulseRemote$Collision") rfl cmX10_at imX10_at (Or.inl k_864) (by decide) rfl rfl rfl (Nat.le_of_ble_eq_true rfl) (by decide +kernel : decode cX1_takeMark 119 = .ok (.invokevirtual 54, 3)) (fun z hz => m_X10_at _ _ _ _ hz) rfl hf (fun z119 hf => ?_)
  refine r_iadd hB (by decide +kernel : decode cX1_takeMark 122 = .ok (.iadd, 1)) ?_
  refine r_pI hB cf1 3 (by decide) (own := "PulseRemote$Collision") rfl (Or.inl k_367) (Or.inl rfl) rfl (by decide +kernel : decode cX1_takeMark 123 = .ok (.putfield 29, 3)) hf (fun m123 hf => ?_)
  refine r_aload_n hB 0 rfl (by decide +kernel : decode cX1_takeMark 126 = .ok (.aload_n 0, 1)) rfl ?_
  refine r_dup hB (by decide +kernel : decode cX1_takeMark 127 = .ok (.dup, 1)) rfl ?_
  refine r_gI hB cf1 2 (by decide) (own := "PulseRemote$Collision") rfl (Or.inl k_366) (by decide +kernel) (by decide +kernel : decode cX1_takeMark 128 = .ok (.getfield 25, 3)) hf (fun x128 hf => ?_)
  refine r_iconst hB (v := 2) (by decide +kernel : decode cX1_takeMark 131 = .ok (.iconst 2, 1)) (by decide +kernel) ?_
  refine r_iadd hB (by decide +kernel : decode cX1_takeMark 132 = .ok (.iadd, 1)) ?_
  refine r_pI hB cf1 2 (by decide) (own := "PulseRemote$Collision") rfl (Or.inl k_366) (Or.inl rfl) rfl (by decide +kernel : decode cX1_takeMark 133 = .ok (.putfield 25, 3)) hf (fun m133 hf => ?_)
  refine r_goto hB (tgt := 203) (by decide +kernel : decode cX1_takeMark 136 = .ok (.goto 67, 3)) (by decide) ?_
  obtain rfl := Option.some.inj hf
  obtain ⟨rfl, rfl⟩ := hk
  exact r_vret hB (by decide +kernel : decode cX1_takeMark 203 = .ok (.return_, 1))
set_option maxHeartbeats 4000000 in
set_option maxRecDepth 100000 in
theorem t_X1_takeMark_54 {X : BX} {D : va_G} {cy : Nat → ClassId} {b : Nat} {r : Option Value} {μ' : MS} (hB : BB X D cy b yX1_takeMark cX1_takeMark 3 none rmX1_takeMark) {l0 : Nat} {l1 : Int32} {l2 : Int32} {s0 : Int32} {s1 : Nat} {μ : MS} {z : MS} (hf : f_X1_takeMark_54 l0 l1 l2 s0 s1 μ = some z) (hk : (fun z : MS => r = none ∧ μ' = z) z) : WW X D cy b r μ' 3 0 0 54 [(0, .ref (b + l0)), (1, .int l1), (2, .int l2)] [.int s0, .ref (b + s1)] μ := by
  unfold f_X1_takeMark_54 at hf
  refine r_pZ hB cf1 6 (by decide) (own := "PulseRemote$Collision") rfl (Or.inl k_370) (Or.inl rfl) rfl (by decide +kernel : decode cX1_takeMark 54 = .ok (.putfield 47, 3)) hf (fun m54 hf => ?_)
  refine r_iload_n hB 1 rfl (by decide +kernel : decode cX1_takeMark 57 = .ok (.iload_n 1, 1)) rfl ?_
  refine r_if_eq hB (tgt := 139) (by decide +kernel : decode cX1_takeMark 58 = .ok (.ifCond .eq 81, 3)) (by decide) hf (fun _ hf => ?_) (fun _ hf => ?_)
  · exact WW.sub [0, 2] rfl (t_X1_takeMark_139 hB hf hk)
  · refine r_iload_n hB 2 rfl (by decide +kernel : decode cX1_takeMark 61 = .ok (.iload_n 2, 1)) rfl ?_
    refine r_if_eq hB (tgt := 76) (by decide +kernel : decode cX1_takeMark 62 = .ok (.ifCond .eq 14, 3)) (by decide) hf (fun _ hf => ?_) (fun _ hf => ?_)
    · exact WW.sub [0] rfl (t_X1_takeMark_76 hB hf hk)
    · refine r_aload_n hB 0 rfl (by decide +kernel : decode cX1_takeMark 65 = .ok (.aload_n 0, 1)) rfl ?_
      refine r_gI hB cf1 3 (by decide) (own := "PulseRemote$Collision") rfl (Or.inl k_367) (by decide +kernel) (by decide +kernel : decode cX1_takeMark 66 = .ok (.getfield 29, 3)) hf (fun x66 hf => ?_)
      refine r_aload_n hB 0 rfl (by decide +kernel : decode cX1_takeMark 69 = .ok (.aload_n 0, 1)) rfl ?_
      refine r_gI hB cf1 5 (by decide) (own := "PulseRemote$Collision") rfl (Or.inl k_369) (by decide +kernel) (by decide +kernel : decode cX1_takeMark 70 = .ok (.getfield 35, 3)) hf (fun x70 hf => ?_)
      refine r_icmp_gt hB (tgt := 139) (by decide +kernel : decode cX1_takeMark 73 = .ok (.if_icmp .gt 66, 3)) (by decide) hf (fun _ hf => ?_) (fun _ hf => ?_)
      · exact WW.sub [0, 2] rfl (t_X1_takeMark_139 hB hf hk)
      · exact WW.sub [0] rfl (t_X1_takeMark_76 hB hf hk)
set_option maxHeartbeats 4000000 in
set_option maxRecDepth 100000 in
theorem t_X1_takeMark_49 {X : BX} {D : va_G} {cy : Nat → ClassId} {b : Nat} {r : Option Value} {μ' : MS} (hB : BB X D cy b yX1_takeMark cX1_takeMark 3 none rmX1_takeMark) {l0 : Nat} {l1 : Int32} {l2 : Int32} {s0 : Nat} {μ : MS} {z : MS} (hf : f_X1_takeMark_49 l0 l1 l2 s0 μ = some z) (hk : (fun z : MS => r = none ∧ μ' = z) z) : WW X D cy b r μ' 3 0 0 49 [(0, .ref (b + l0)), (1, .int l1), (2, .int l2)] [.ref (b + s0)] μ := by
  unfold f_X1_takeMark_49 at hf
  refine r_iconst hB (v := 1) (by decide +kernel : decode cX1_takeMark 49 = .ok (.iconst 1, 1)) (by decide +kernel) ?_
  refine r_goto hB (tgt := 54) (by decide +kernel : decode cX1_takeMark 50 = .ok (.goto 4, 3)) (by decide) ?_
  exact WW.sub [0, 1, 2] rfl (t_X1_takeMark_54 hB hf hk)
set_option maxHeartbeats 4000000 in
set_option maxRecDepth 100000 in
theorem t_X1_takeMark_39 {X : BX} {D : va_G} {cy : Nat → ClassId} {b : Nat} {r : Option Value} {μ' : MS} (hB : BB X D cy b yX1_takeMark cX1_takeMark 3 none rmX1_takeMark) {l0 : Nat} {l1 : Int32} {s0 : Int32} {μ : MS} {z : MS} (hf : f_X1_takeMark_39 l0 l1 s0 μ = some z) (hk : (fun z : MS => r = none ∧ μ' = z) z) : WW X D cy b r μ' 3 0 0 39 [(0, .ref (b + l0)), (1, .int l1)] [.int s0] μ := by
  unfold f_X1_takeMark_39 at hf
  refine r_istore_n hB (by decide +kernel : decode cX1_takeMark 39 = .ok (.istore_n 2, 1)) rfl (by decide) rfl ?_
  refine ww_lv (lv' := [(2, .int s0), (0, .ref (b + l0)), (1, .int l1)]) rfl ?_
  refine r_aload_n hB 1 rfl (by decide +kernel : decode cX1_takeMark 40 = .ok (.aload_n 0, 1)) rfl ?_
  refine r_iload_n hB 2 rfl (by decide +kernel : decode cX1_takeMark 41 = .ok (.iload_n 1, 1)) rfl ?_
  refine r_if_ne hB (tgt := 49) (by decide +kernel : decode cX1_takeMark 42 = .ok (.ifCond .ne 7, 3)) (by decide) hf (fun _ hf => ?_) (fun _ hf => ?_)
  · refine r_iload_n hB 0 rfl (by decide +kernel : decode cX1_takeMark 45 = .ok (.iload_n 2, 1)) rfl ?_
    refine r_if_eq hB (tgt := 53) (by decide +kernel : decode cX1_takeMark 46 = .ok (.ifCond .eq 7, 3)) (by decide) hf (fun _ hf => ?_) (fun _ hf => ?_)
    · refine r_iconst hB (v := 0) (by decide +kernel : decode cX1_takeMark 53 = .ok (.iconst 0, 1)) (by decide +kernel) ?_
      exact WW.sub [1, 2, 0] rfl (t_X1_takeMark_54 hB hf hk)
    · exact WW.sub [1, 2, 0] rfl (t_X1_takeMark_49 hB hf hk)
  · exact WW.sub [1, 2, 0] rfl (t_X1_takeMark_49 hB hf hk)
set_option maxHeartbeats 4000000 in
set_option maxRecDepth 100000 in
theorem t_X1_takeMark_19 {X : BX} {D : va_G} {cy : Nat → ClassId} {b : Nat} {r : Option Value} {μ' : MS} (hB : BB X D cy b yX1_takeMark cX1_takeMark 3 none rmX1_takeMark) {l0 : Nat} {s0 : Int32} {μ : MS} {z : MS} (hf : f_X1_takeMark_19 l0 s0 μ = some z) (hk : (fun z : MS => r = none ∧ μ' = z) z) : WW X D cy b r μ' 3 0 0 19 [(0, .ref (b + l0))] [.int s0] μ := by
  unfold f_X1_takeMark_19 at hf
  refine r_istore_n hB (by decide +kernel : decode cX1_takeMark 19 = .ok (.istore_n 1, 1)) rfl (by decide) rfl ?_
  refine ww_lv (lv' := [(1, .int s0), (0, .ref (b + l0))]) rfl ?_
  refine r_aload_n hB 1 rfl (by decide +kernel : decode cX1_takeMark 20 = .ok (.aload_n 0, 1)) rfl ?_
  refine r_gI hB cf1 4 (by decide) (own := "PulseRemote$Collision") rfl (Or.inl k_368) (by decide +kernel) (by decide +kernel : decode cX1_takeMark 21 = .ok (.getfield 32, 3)) hf (fun x21 hf => ?_)
  refine r_aload_n hB 1 rfl (by decide +kernel : decode cX1_takeMark 24 = .ok (.aload_n 0, 1)) rfl ?_
  refine r_gR hB cf1 1 (by decide) (own := "PulseRemote$Collision") rfl (Or.inl k_365) (by decide +kernel) (by decide +kernel : decode cX1_takeMark 25 = .ok (.getfield 18, 3)) hf (fun x25 hf => ?_)
  refine r_gI hB cf10 1 (by decide) (own := "PulseRemote$Collision") rfl (Or.inr ⟨_, k_140⟩) (by decide +kernel) (by decide +kernel : decode cX1_takeMark 28 = .ok (.getfield 44, 3)) hf (fun x28 hf => ?_)
  refine r_icmp_ge hB (tgt := 38) (by decide +kernel : decode cX1_takeMark 31 = .ok (.if_icmp .ge 7, 3)) (by decide) hf (fun _ hf => ?_) (fun _ hf => ?_)
  · refine r_iconst hB (v := 0) (by decide +kernel : decode cX1_takeMark 38 = .ok (.iconst 0, 1)) (by decide +kernel) ?_
    exact WW.sub [1, 0] rfl (t_X1_takeMark_39 hB hf hk)
  · refine r_iconst hB (v := 1) (by decide +kernel : decode cX1_takeMark 34 = .ok (.iconst 1, 1)) (by decide +kernel) ?_
    refine r_goto hB (tgt := 39) (by decide +kernel : decode cX1_takeMark 35 = .ok (.goto 4, 3)) (by decide) ?_
    exact WW.sub [1, 0] rfl (t_X1_takeMark_39 hB hf hk)
set_option maxHeartbeats 4000000 in
set_option maxRecDepth 100000 in
theorem t_X1_takeMark_0 {X : BX} {D : va_G} {cy : Nat → ClassId} {b : Nat} {r : Option Value} {μ' : MS} (hB : BB X D cy b yX1_takeMark cX1_takeMark 3 none rmX1_takeMark) {l0 : Nat} {μ : MS} {z : MS} (hf : f_X1_takeMark l0 μ = some z) (hk : (fun z : MS => r = none ∧ μ' = z) z) : WW X D cy b r μ' 3 0 0 0 [(0, .ref (b + l0))] [] μ := by
  unfold f_X1_takeMark at hf
  refine r_aload_n hB 0 rfl (by decide +kernel : decode cX1_takeMark 0 = .ok (.aload_n 0, 1)) rfl ?_
  refine r_gI hB cf1 2 (by decide) (own := "PulseRemote$Collision") rfl (Or.inl k_366) (by decide +kernel) (by decide +kernel : decode cX1_takeMark 1 = .ok (.getfield 25, 3)) hf (fun x1 hf => ?_)
  refine r_aload_n hB 0 rfl (by decide +kernel : decode cX1_takeMark 4 = .ok (.aload_n 0, 1)) rfl ?_
  refine r_gR hB cf1 0 (by decide) (own := "PulseRemote$Collision") rfl (Or.inl k_364) (by decide +kernel) (by decide +kernel : decode cX1_takeMark 5 = .ok (.getfield 12, 3)) hf (fun x5 hf => ?_)
  refine r_gI hB cf10 1 (by decide) (own := "PulseRemote$Collision") rfl (Or.inr ⟨_, k_140⟩) (by decide +kernel) (by decide +kernel : decode cX1_takeMark 8 = .ok (.getfield 44, 3)) hf (fun x8 hf => ?_)
  refine r_icmp_ge hB (tgt := 18) (by decide +kernel : decode cX1_takeMark 11 = .ok (.if_icmp .ge 7, 3)) (by decide) hf (fun _ hf => ?_) (fun _ hf => ?_)
  · refine r_iconst hB (v := 0) (by decide +kernel : decode cX1_takeMark 18 = .ok (.iconst 0, 1)) (by decide +kernel) ?_
    exact WW.sub [0] rfl (t_X1_takeMark_19 hB hf hk)
  · refine r_iconst hB (v := 1) (by decide +kernel : decode cX1_takeMark 14 = .ok (.iconst 1, 1)) (by decide +kernel) ?_
    refine r_goto hB (tgt := 19) (by decide +kernel : decode cX1_takeMark 15 = .ok (.goto 4, 3)) (by decide) ?_
    exact WW.sub [0] rfl (t_X1_takeMark_19 hB hf hk)
theorem m_X1_takeMark (l : Launch) (D : va_G) (cy : Nat → ClassId) (b : Nat) {l0 : Nat} {μ : MS} {z : MS} (hf : f_X1_takeMark l0 μ = some z) : Met l yX1_takeMark (.code yX1_takeMark cX1_takeMark 3 none :: GW) rmX1_takeMark (Pw D cy b [.ref (b + l0)] μ) (Qw D cy b (none) (z)) rmX1_takeMark.cells rmX1_takeMark.slots (fun q => b ≤ q) :=
  met_of (by decide) (Nat.le_of_ble_eq_true rfl) (fun X hB _ => (t_X1_takeMark_0 hB hf ⟨rfl, rfl⟩))
-- PulseRemote$Collision.begin(I)V
set_option maxHeartbeats 4000000 in
set_option maxRecDepth 100000 in
theorem t_X1_begin_0 {X : BX} {D : va_G} {cy : Nat → ClassId} {b : Nat} {r : Option Value} {μ' : MS} (hB : BB X D cy b yX1_begin cX1_begin 2 none rmX1_begin) {l0 : Nat} {l1 : Int32} {μ : MS} {z : MS} (hf : f_X1_begin l0 l1 μ = some z) (hk : (fun z : MS => r = none ∧ μ' = z) z) : WW X D cy b r μ' 2 0 0 0 [(0, .ref (b + l0)), (1, .int l1)] [] μ := by
  unfold f_X1_begin at hf
  refine r_aload_n hB 0 rfl (by decide +kernel : decode cX1_begin 0 = .ok (.aload_n 0, 1)) rfl ?_
  refine r_iconst hB (v := 0) (by decide +kernel : decode cX1_begin 1 = .ok (.iconst 0, 1)) (by decide +kernel) ?_
  refine r_pI hB cf1 2 (by decide) (own := "PulseRemote$Collision") rfl (Or.inl k_366) (Or.inl rfl) rfl (by decide +kernel : decode cX1_begin 2 = .ok (.putfield 25, 3)) hf (fun m2 hf => ?_)
  refine r_aload_n hB 0 rfl (by decide +kernel : decode cX1_begin 5 = .ok (.aload_n 0, 1)) rfl ?_
  refine r_iconst hB (v := 0) (by decide +kernel : decode cX1_begin 6 = .ok (.iconst 0, 1)) (by decide +kernel) ?_
  refine r_pI hB cf1 3 (by decide) (own := "PulseRemote$Collision") rfl (Or.inl k_367) (Or.inl rfl) rfl (by decide +kernel : decode cX1_begin 7 = .ok (.putfield 29, 3)) hf (fun m7 hf => ?_)
  refine r_aload_n hB 0 rfl (by decide +kernel : decode cX1_begin 10 = .ok (.aload_n 0, 1)) rfl ?_
  refine r_iconst hB (v := 0) (by decide +kernel : decode cX1_begin 11 = .ok (.iconst 0, 1)) (by decide +kernel) ?_
  refine r_pI hB cf1 4 (by decide) (own := "PulseRemote$Collision") rfl (Or.inl k_368) (Or.inl rfl) rfl (by decide +kernel : decode cX1_begin 12 = .ok (.putfield 32, 3)) hf (fun m12 hf => ?_)
  refine r_aload_n hB 0 rfl (by decide +kernel : decode cX1_begin 15 = .ok (.aload_n 0, 1)) rfl ?_
  refine r_iload_n hB 1 rfl (by decide +kernel : decode cX1_begin 16 = .ok (.iload_n 1, 1)) rfl ?_
  refine r_pI hB cf1 5 (by decide) (own := "PulseRemote$Collision") rfl (Or.inl k_369) (Or.inl rfl) rfl (by decide +kernel : decode cX1_begin 17 = .ok (.putfield 35, 3)) hf (fun m17 hf => ?_)
  refine r_aload_n hB 0 rfl (by decide +kernel : decode cX1_begin 20 = .ok (.aload_n 0, 1)) rfl ?_
  refine r_iconst hB (v := 0) (by decide +kernel : decode cX1_begin 21 = .ok (.iconst 0, 1)) (by decide +kernel) ?_
  refine r_pI hB cf1 9 (by decide) (own := "PulseRemote$Collision") rfl (Or.inl k_373) (Or.inl rfl) rfl (by decide +kernel : decode cX1_begin 22 = .ok (.putfield 38, 3)) hf (fun m22 hf => ?_)
  refine r_aload_n hB 0 rfl (by decide +kernel : decode cX1_begin 25 = .ok (.aload_n 0, 1)) rfl ?_
  refine r_cVv hB [] [] cf1 (own := "PulseRemote$Collision") rfl cmX1_takeMark imX1_takeMark (Or.inl k_860) (by decide) rfl rfl rfl (Nat.le_of_ble_eq_true rfl) (by decide +kernel : decode cX1_begin 26 = .ok (.invokevirtual 41, 3)) (fun z hz => m_X1_takeMark _ _ _ _ hz) rfl hf (fun z26 hf => ?_)
  obtain rfl := Option.some.inj hf
  obtain ⟨rfl, rfl⟩ := hk
  exact r_vret hB (by decide +kernel : decode cX1_begin 29 = .ok (.return_, 1))
theorem m_X1_begin (l : Launch) (D : va_G) (cy : Nat → ClassId) (b : Nat) {l0 : Nat} {l1 : Int32} {μ : MS} {z : MS} (hf : f_X1_begin l0 l1 μ = some z) : Met l yX1_begin (.code yX1_begin cX1_begin 2 none :: GW) rmX1_begin (Pw D cy b [.ref (b + l0), .int l1] μ) (Qw D cy b (none) (z)) rmX1_begin.cells rmX1_begin.slots (fun q => b ≤ q) :=
  met_of (by decide) (Nat.le_of_ble_eq_true rfl) (fun X hB _ => (t_X1_begin_0 hB hf ⟨rfl, rfl⟩))
-- PulseRemote$Collision.nextDuration()I
set_option maxHeartbeats 4000000 in
set_option maxRecDepth 100000 in
theorem t_X1_nextDuration_103 {X : BX} {D : va_G} {cy : Nat → ClassId} {b : Nat} {r : Option Value} {μ' : MS} (hB : BB X D cy b yX1_nextDuration cX1_nextDuration 4 (some .int) rmX1_nextDuration) {l1 : Int32} {l2 : Int32} {s0 : Int32} {s1 : Nat} {μ : MS} {z : (Int32 × MS)} (hf : f_X1_nextDuration_103 l1 l2 s0 s1 μ = some z) (hk : (fun z : Int32 × MS => r = some (.int z.1) ∧ μ' = z.2) z) : WW X D cy b r μ' 4 0 0 103 [(1, .int l1), (2, .int l2)] [.int s0, .ref (b + s1)] μ := by
  unfold f_X1_nextDuration_103 at hf
  refine r_pI hB cf1 9 (by decide) (own := "PulseRemote$Collision") rfl (Or.inl k_373) (Or.inl rfl) rfl (by decide +kernel : decode cX1_nextDuration 103 = .ok (.putfield 38, 3)) hf (fun m103 hf => ?_)
  refine r_iload_n hB 1 rfl (by decide +kernel : decode cX1_nextDuration 106 = .ok (.iload_n 2, 1)) rfl ?_
  refine r_iload_n hB 0 rfl (by decide +kernel : decode cX1_nextDuration 107 = .ok (.iload_n 1, 1)) rfl ?_
  refine r_isub hB (by decide +kernel : decode cX1_nextDuration 108 = .ok (.isub, 1)) ?_
  obtain rfl := Option.some.inj hf
  obtain ⟨rfl, rfl⟩ := hk
  exact r_iret hB (by decide +kernel : decode cX1_nextDuration 109 = .ok (.ireturn, 1))
set_option maxHeartbeats 4000000 in
set_option maxRecDepth 100000 in
theorem t_X1_nextDuration_85 {X : BX} {D : va_G} {cy : Nat → ClassId} {b : Nat} {r : Option Value} {μ' : MS} (hB : BB X D cy b yX1_nextDuration cX1_nextDuration 4 (some .int) rmX1_nextDuration) {l0 : Nat} {l1 : Int32} {l2 : Int32} {μ : MS} {z : (Int32 × MS)} (hf : f_X1_nextDuration_85 l0 l1 l2 μ = some z) (hk : (fun z : Int32 × MS => r = some (.int z.1) ∧ μ' = z.2) z) : WW X D cy b r μ' 4 0 0 85 [(0, .ref (b + l0)), (1, .int l1), (2, .int l2)] [] μ := by
  unfold f_X1_nextDuration_85 at hf
  refine r_aload_n hB 0 rfl (by decide +kernel : decode cX1_nextDuration 85 = .ok (.aload_n 0, 1)) rfl ?_
  refine r_aload_n hB 0 rfl (by decide +kernel : decode cX1_nextDuration 86 = .ok (.aload_n 0, 1)) rfl ?_
  refine r_gI hB cf1 6 (by decide) (own := "PulseRemote$Collision") rfl (Or.inl k_370) (by decide +kernel) (by decide +kernel : decode cX1_nextDuration 87 = .ok (.getfield 47, 3)) hf (fun x87 hf => ?_)
  refine r_if_eq hB (tgt := 102) (by decide +kernel : decode cX1_nextDuration 90 = .ok (.ifCond .eq 12, 3)) (by decide) hf (fun _ hf => ?_) (fun _ hf => ?_)
  · refine r_iconst hB (v := 0) (by decide +kernel : decode cX1_nextDuration 102 = .ok (.iconst 0, 1)) (by decide +kernel) ?_
    exact WW.sub [1, 2] rfl (t_X1_nextDuration_103 hB hf hk)
  · refine r_aload_n hB 0 rfl (by decide +kernel : decode cX1_nextDuration 93 = .ok (.aload_n 0, 1)) rfl ?_
    refine r_gI hB cf1 7 (by decide) (own := "PulseRemote$Collision") rfl (Or.inl k_371) (by decide +kernel) (by decide +kernel : decode cX1_nextDuration 94 = .ok (.getfield 51, 3)) hf (fun x94 hf => ?_)
    refine r_iload_n hB 2 rfl (by decide +kernel : decode cX1_nextDuration 97 = .ok (.iload_n 2, 1)) rfl ?_
    refine r_isub hB (by decide +kernel : decode cX1_nextDuration 98 = .ok (.isub, 1)) ?_
    refine r_goto hB (tgt := 103) (by decide +kernel : decode cX1_nextDuration 99 = .ok (.goto 4, 3)) (by decide) ?_
    exact WW.sub [1, 2] rfl (t_X1_nextDuration_103 hB hf hk)
set_option maxHeartbeats 4000000 in
set_option maxRecDepth 100000 in
theorem t_X1_nextDuration_44_b {X : BX} {D : va_G} {cy : Nat → ClassId} {b : Nat} {r : Option Value} {μ' : MS} (hB : BB X D cy b yX1_nextDuration cX1_nextDuration 4 (some .int) rmX1_nextDuration) {l0 : Nat} {l1 : Int32} {l2 : Int32} {l3 : Int32} {μ : MS} {z : ((Nat × Int32 × Int32 × Int32 × MS) ⊕ (Int32 × MS))} (hf : f_X1_nextDuration_44_b l0 l1 l2 l3 μ = some z) (hk : (Sum.elim (fun s : Nat × Int32 × Int32 × Int32 × MS => WW X D cy b r μ' 4 0 0 44 [(0, .ref (b + s.1)), (1, .int s.2.1), (2, .int s.2.2.1), (3, .int s.2.2.2.1)] [] s.2.2.2.2) (fun z : Int32 × MS => r = some (.int z.1) ∧ μ' = z.2)) z) : WW X D cy b r μ' 4 0 0 44 [(0, .ref (b + l0)), (1, .int l1), (2, .int l2), (3, .int l3)] [] μ := by
  unfold f_X1_nextDuration_44_b at hf
  refine r_iload_n hB 3 rfl (by decide +kernel : decode cX1_nextDuration 44 = .ok (.iload_n 3, 1)) rfl ?_
  refine r_sipush hB (v := 200) (by decide +kernel : decode cX1_nextDuration 45 = .ok (.sipush 200, 3)) (by decide +kernel) ?_
  refine r_icmp_ge hB (tgt := 85) (by decide +kernel : decode cX1_nextDuration 48 = .ok (.if_icmp .ge 37, 3)) (by decide) hf (fun _ hf => ?_) (fun _ hf => ?_)
  · obtain ⟨_, hx0, rfl⟩ := xr_inv hf
    exact WW.sub [0, 1, 2] rfl (t_X1_nextDuration_85 hB hx0 hk)
  · refine r_aload_n hB 0 rfl (by decide +kernel : decode cX1_nextDuration 51 = .ok (.aload_n 0, 1)) rfl ?_
    refine r_gI hB cf1 6 (by decide) (own := "PulseRemote$Collision") rfl (Or.inl k_370) (by decide +kernel) (by decide +kernel : decode cX1_nextDuration 52 = .ok (.getfield 47, 3)) hf (fun x52 hf => ?_)
    refine r_if_eq hB (tgt := 85) (by decide +kernel : decode cX1_nextDuration 55 = .ok (.ifCond .eq 30, 3)) (by decide) hf (fun _ hf => ?_) (fun _ hf => ?_)
    · obtain ⟨_, hx0, rfl⟩ := xr_inv hf
      exact WW.sub [0, 1, 2] rfl (t_X1_nextDuration_85 hB hx0 hk)
    · refine r_aload_n hB 0 rfl (by decide +kernel : decode cX1_nextDuration 58 = .ok (.aload_n 0, 1)) rfl ?_
      refine r_gI hB cf1 7 (by decide) (own := "PulseRemote$Collision") rfl (Or.inl k_371) (by decide +kernel) (by decide +kernel : decode cX1_nextDuration 59 = .ok (.getfield 51, 3)) hf (fun x59 hf => ?_)
      refine r_iload_n hB 2 rfl (by decide +kernel : decode cX1_nextDuration 62 = .ok (.iload_n 2, 1)) rfl ?_
      refine r_icmp_gt hB (tgt := 85) (by decide +kernel : decode cX1_nextDuration 63 = .ok (.if_icmp .gt 22, 3)) (by decide) hf (fun _ hf => ?_) (fun _ hf => ?_)
      · obtain ⟨_, hx0, rfl⟩ := xr_inv hf
        exact WW.sub [0, 1, 2] rfl (t_X1_nextDuration_85 hB hx0 hk)
      · refine r_iload_n hB 2 rfl (by decide +kernel : decode cX1_nextDuration 66 = .ok (.iload_n 2, 1)) rfl ?_
        refine r_aload_n hB 0 rfl (by decide +kernel : decode cX1_nextDuration 67 = .ok (.aload_n 0, 1)) rfl ?_
        refine r_gI hB cf1 8 (by decide) (own := "PulseRemote$Collision") rfl (Or.inl k_372) (by decide +kernel) (by decide +kernel : decode cX1_nextDuration 68 = .ok (.getfield 58, 3)) hf (fun x68 hf => ?_)
        refine r_max hB (own := "PulseRemote$Collision") rfl k_873 k_475 k_34 k_476 (by decide +kernel : decode cX1_nextDuration 71 = .ok (.invokestatic 61, 3)) (by decide) (Nat.le_of_ble_eq_true rfl) ?_
        refine r_name hf (fun v74 hf => ?_)
        refine r_istore_n hB (by decide +kernel : decode cX1_nextDuration 74 = .ok (.istore_n 2, 1)) rfl (by decide) rfl ?_
        refine ww_lv (lv' := [(2, .int v74), (0, .ref (b + l0)), (1, .int l1), (3, .int l3)]) rfl ?_
        refine r_aload_n hB 1 rfl (by decide +kernel : decode cX1_nextDuration 75 = .ok (.aload_n 0, 1)) rfl ?_
        refine r_cVv hB [] [] cf1 (own := "PulseRemote$Collision") rfl cmX1_takeMark imX1_takeMark (Or.inl k_860) (by decide) rfl rfl rfl (Nat.le_of_ble_eq_true rfl) (by decide +kernel : decode cX1_nextDuration 76 = .ok (.invokevirtual 41, 3)) (fun z hz => m_X1_takeMark _ _ _ _ hz) rfl hf (fun z76 hf => ?_)
        refine r_iincB hB 3 rfl (by decide +kernel : decode cX1_nextDuration 79 = .ok (.iinc 3 1, 3)) (w := 1) (by decide +kernel) (by decide) hf (fun v79 hf => ?_)
        refine ww_lv (lv' := [(3, .int v79), (2, .int v74), (0, .ref (b + l0)), (1, .int l1)]) rfl ?_
        refine r_goto hB (tgt := 44) (by decide +kernel : decode cX1_nextDuration 82 = .ok (.goto (-38), 3)) (by decide) ?_
        obtain rfl := Option.some.inj hf
        exact WW.sub [2, 3, 1, 0] rfl hk
set_option maxHeartbeats 4000000 in
set_option maxRecDepth 100000 in
theorem t_X1_nextDuration_44 {X : BX} {D : va_G} {cy : Nat → ClassId} {b : Nat} {r : Option Value} {μ' : MS} (hB : BB X D cy b yX1_nextDuration cX1_nextDuration 4 (some .int) rmX1_nextDuration) {l0 : Nat} {l1 : Int32} {l2 : Int32} {l3 : Int32} {μ : MS} {z : (Int32 × MS)} (hf : f_X1_nextDuration_44 l0 l1 l2 l3 μ = some z) (hk : (fun z : Int32 × MS => r = some (.int z.1) ∧ μ' = z.2) z) : WW X D cy b r μ' 4 0 0 44 [(0, .ref (b + l0)), (1, .int l1), (2, .int l2), (3, .int l3)] [] μ :=
  lp_ind (P := fun s : Nat × Int32 × Int32 × Int32 × MS => WW X D cy b r μ' 4 0 0 44 [(0, .ref (b + s.1)), (1, .int s.2.1), (2, .int s.2.2.1), (3, .int s.2.2.2.1)] [] s.2.2.2.2) (Q := (fun z : Int32 × MS => r = some (.int z.1) ∧ μ' = z.2)) (fun s z hz hk => t_X1_nextDuration_44_b hB hz hk) (l0, l1, l2, l3, μ) z hf hk
set_option maxHeartbeats 4000000 in
set_option maxRecDepth 100000 in
theorem t_X1_nextDuration_0 {X : BX} {D : va_G} {cy : Nat → ClassId} {b : Nat} {r : Option Value} {μ' : MS} (hB : BB X D cy b yX1_nextDuration cX1_nextDuration 4 (some .int) rmX1_nextDuration) {l0 : Nat} {μ : MS} {z : (Int32 × MS)} (hf : f_X1_nextDuration l0 μ = some z) (hk : (fun z : Int32 × MS => r = some (.int z.1) ∧ μ' = z.2) z) : WW X D cy b r μ' 4 0 0 0 [(0, .ref (b + l0))] [] μ := by
  unfold f_X1_nextDuration at hf
  refine r_aload_n hB 0 rfl (by decide +kernel : decode cX1_nextDuration 0 = .ok (.aload_n 0, 1)) rfl ?_
  refine r_gI hB cf1 9 (by decide) (own := "PulseRemote$Collision") rfl (Or.inl k_373) (by decide +kernel) (by decide +kernel : decode cX1_nextDuration 1 = .ok (.getfield 38, 3)) hf (fun x1 hf => ?_)
  refine r_if_le hB (tgt := 19) (by decide +kernel : decode cX1_nextDuration 4 = .ok (.ifCond .le 15, 3)) (by decide) hf (fun _ hf => ?_) (fun _ hf => ?_)
  · refine r_aload_n hB 0 rfl (by decide +kernel : decode cX1_nextDuration 19 = .ok (.aload_n 0, 1)) rfl ?_
    refine r_gI hB cf1 6 (by decide) (own := "PulseRemote$Collision") rfl (Or.inl k_370) (by decide +kernel) (by decide +kernel : decode cX1_nextDuration 20 = .ok (.getfield 47, 3)) hf (fun x20 hf => ?_)
    refine r_if_ne hB (tgt := 28) (by decide +kernel : decode cX1_nextDuration 23 = .ok (.ifCond .ne 5, 3)) (by decide) hf (fun _ hf => ?_) (fun _ hf => ?_)
    · refine r_iconst hB (v := 0) (by decide +kernel : decode cX1_nextDuration 26 = .ok (.iconst 0, 1)) (by decide +kernel) ?_
      obtain rfl := Option.some.inj hf
      obtain ⟨rfl, rfl⟩ := hk
      exact r_iret hB (by decide +kernel : decode cX1_nextDuration 27 = .ok (.ireturn, 1))
    · refine r_aload_n hB 0 rfl (by decide +kernel : decode cX1_nextDuration 28 = .ok (.aload_n 0, 1)) rfl ?_
      refine r_gI hB cf1 7 (by decide) (own := "PulseRemote$Collision") rfl (Or.inl k_371) (by decide +kernel) (by decide +kernel : decode cX1_nextDuration 29 = .ok (.getfield 51, 3)) hf (fun x29 hf => ?_)
      refine r_istore_n hB (by decide +kernel : decode cX1_nextDuration 32 = .ok (.istore_n 1, 1)) rfl (by decide) rfl ?_
      refine ww_lv (lv' := [(1, .int x29), (0, .ref (b + l0))]) rfl ?_
      refine r_aload_n hB 1 rfl (by decide +kernel : decode cX1_nextDuration 33 = .ok (.aload_n 0, 1)) rfl ?_
      refine r_gI hB cf1 8 (by decide) (own := "PulseRemote$Collision") rfl (Or.inl k_372) (by decide +kernel) (by decide +kernel : decode cX1_nextDuration 34 = .ok (.getfield 58, 3)) hf (fun x34 hf => ?_)
      refine r_istore_n hB (by decide +kernel : decode cX1_nextDuration 37 = .ok (.istore_n 2, 1)) rfl (by decide) rfl ?_
      refine ww_lv (lv' := [(2, .int x34), (1, .int x29), (0, .ref (b + l0))]) rfl ?_
      refine r_aload_n hB 2 rfl (by decide +kernel : decode cX1_nextDuration 38 = .ok (.aload_n 0, 1)) rfl ?_
      refine r_cVv hB [] [] cf1 (own := "PulseRemote$Collision") rfl cmX1_takeMark imX1_takeMark (Or.inl k_860) (by decide) rfl rfl rfl (Nat.le_of_ble_eq_true rfl) (by decide +kernel : decode cX1_nextDuration 39 = .ok (.invokevirtual 41, 3)) (fun z hz => m_X1_takeMark _ _ _ _ hz) rfl hf (fun z39 hf => ?_)
      refine r_iconst hB (v := 0) (by decide +kernel : decode cX1_nextDuration 42 = .ok (.iconst 0, 1)) (by decide +kernel) ?_
      refine r_istore_n hB (by decide +kernel : decode cX1_nextDuration 43 = .ok (.istore_n 3, 1)) rfl (by decide) rfl ?_
      refine ww_lv (lv' := [(3, .int 0), (2, .int x34), (1, .int x29), (0, .ref (b + l0))]) rfl ?_
      exact WW.sub [3, 2, 1, 0] rfl (t_X1_nextDuration_44 hB hf hk)
  · refine r_aload_n hB 0 rfl (by decide +kernel : decode cX1_nextDuration 7 = .ok (.aload_n 0, 1)) rfl ?_
    refine r_gI hB cf1 9 (by decide) (own := "PulseRemote$Collision") rfl (Or.inl k_373) (by decide +kernel) (by decide +kernel : decode cX1_nextDuration 8 = .ok (.getfield 38, 3)) hf (fun x8 hf => ?_)
    refine r_istore_n hB (by decide +kernel : decode cX1_nextDuration 11 = .ok (.istore_n 1, 1)) rfl (by decide) rfl ?_
    refine ww_lv (lv' := [(1, .int x8), (0, .ref (b + l0))]) rfl ?_
    refine r_aload_n hB 1 rfl (by decide +kernel : decode cX1_nextDuration 12 = .ok (.aload_n 0, 1)) rfl ?_
    refine r_iconst hB (v := 0) (by decide +kernel : decode cX1_nextDuration 13 = .ok (.iconst 0, 1)) (by decide +kernel) ?_
    refine r_pI hB cf1 9 (by decide) (own := "PulseRemote$Collision") rfl (Or.inl k_373) (Or.inl rfl) rfl (by decide +kernel : decode cX1_nextDuration 14 = .ok (.putfield 38, 3)) hf (fun m14 hf => ?_)
    refine r_iload_n hB 0 rfl (by decide +kernel : decode cX1_nextDuration 17 = .ok (.iload_n 1, 1)) rfl ?_
    obtain rfl := Option.some.inj hf
    obtain ⟨rfl, rfl⟩ := hk
    exact r_iret hB (by decide +kernel : decode cX1_nextDuration 18 = .ok (.ireturn, 1))
theorem m_X1_nextDuration (l : Launch) (D : va_G) (cy : Nat → ClassId) (b : Nat) {l0 : Nat} {μ : MS} {z : Int32 × MS} (hf : f_X1_nextDuration l0 μ = some z) : Met l yX1_nextDuration (.code yX1_nextDuration cX1_nextDuration 4 (some .int) :: GW) rmX1_nextDuration (Pw D cy b [.ref (b + l0)] μ) (Qw D cy b (some (.int z.1)) (z.2)) rmX1_nextDuration.cells rmX1_nextDuration.slots (fun q => b ≤ q) :=
  met_of (by decide) (Nat.le_of_ble_eq_true rfl) (fun X hB _ => (t_X1_nextDuration_0 hB hf ⟨rfl, rfl⟩))
-- PulseRemote$Collision.writeTo(LPulseRemote$Train;)Z
set_option maxHeartbeats 4000000 in
set_option maxRecDepth 100000 in
theorem t_X1_writeTo_39 {X : BX} {D : va_G} {cy : Nat → ClassId} {b : Nat} {r : Option Value} {μ' : MS} (hB : BB X D cy b yX1_writeTo cX1_writeTo 4 (some .boolean) rmX1_writeTo) {l2 : Int32} {μ : MS} {z : (Int32 × MS)} (hf : f_X1_writeTo_39 l2 μ = some z) (hk : (fun z : Int32 × MS => r = some (.int z.1) ∧ μ' = z.2) z) : WW X D cy b r μ' 4 0 0 39 [(2, .int l2)] [] μ := by
  unfold f_X1_writeTo_39 at hf
  refine r_iload_n hB 0 rfl (by decide +kernel : decode cX1_writeTo 39 = .ok (.iload_n 2, 1)) rfl ?_
  refine r_if_ne hB (tgt := 47) (by decide +kernel : decode cX1_writeTo 40 = .ok (.ifCond .ne 7, 3)) (by decide) hf (fun _ hf => ?_) (fun _ hf => ?_)
  · refine r_iconst hB (v := 1) (by decide +kernel : decode cX1_writeTo 43 = .ok (.iconst 1, 1)) (by decide +kernel) ?_
    refine r_goto hB (tgt := 48) (by decide +kernel : decode cX1_writeTo 44 = .ok (.goto 4, 3)) (by decide) ?_
    obtain rfl := Option.some.inj hf
    obtain ⟨rfl, rfl⟩ := hk
    exact r_zret hB (Or.inr rfl) (by decide +kernel : decode cX1_writeTo 48 = .ok (.ireturn, 1))
  · refine r_iconst hB (v := 0) (by decide +kernel : decode cX1_writeTo 47 = .ok (.iconst 0, 1)) (by decide +kernel) ?_
    obtain rfl := Option.some.inj hf
    obtain ⟨rfl, rfl⟩ := hk
    exact r_zret hB (Or.inl rfl) (by decide +kernel : decode cX1_writeTo 48 = .ok (.ireturn, 1))
set_option maxHeartbeats 4000000 in
set_option maxRecDepth 100000 in
theorem t_X1_writeTo_12_b {X : BX} {D : va_G} {cy : Nat → ClassId} {b : Nat} {r : Option Value} {μ' : MS} (hB : BB X D cy b yX1_writeTo cX1_writeTo 4 (some .boolean) rmX1_writeTo) {l0 : Nat} {l1 : Nat} {l2 : Int32} {l3 : Int32} {μ : MS} {z : ((Nat × Nat × Int32 × Int32 × MS) ⊕ (Int32 × MS))} (hf : f_X1_writeTo_12_b l0 l1 l2 l3 μ = some z) (hk : (Sum.elim (fun s : Nat × Nat × Int32 × Int32 × MS => WW X D cy b r μ' 4 0 0 12 [(0, .ref (b + s.1)), (1, .ref (b + s.2.1)), (2, .int s.2.2.1), (3, .int s.2.2.2.1)] [] s.2.2.2.2) (fun z : Int32 × MS => r = some (.int z.1) ∧ μ' = z.2)) z) : WW X D cy b r μ' 4 0 0 12 [(0, .ref (b + l0)), (1, .ref (b + l1)), (2, .int l2), (3, .int l3)] [] μ := by
  unfold f_X1_writeTo_12_b at hf
  refine r_iload_n hB 3 rfl (by decide +kernel : decode cX1_writeTo 12 = .ok (.iload_n 3, 1)) rfl ?_
  refine r_sipush hB (v := 200) (by decide +kernel : decode cX1_writeTo 13 = .ok (.sipush 200, 3)) (by decide +kernel) ?_
  refine r_icmp_ge hB (tgt := 39) (by decide +kernel : decode cX1_writeTo 16 = .ok (.if_icmp .ge 23, 3)) (by decide) hf (fun _ hf => ?_) (fun _ hf => ?_)
  · obtain ⟨_, hx0, rfl⟩ := xr_inv hf
    exact WW.sub [2] rfl (t_X1_writeTo_39 hB hx0 hk)
  · refine r_iload_n hB 2 rfl (by decide +kernel : decode cX1_writeTo 19 = .ok (.iload_n 2, 1)) rfl ?_
    refine r_if_le hB (tgt := 39) (by decide +kernel : decode cX1_writeTo 20 = .ok (.ifCond .le 19, 3)) (by decide) hf (fun _ hf => ?_) (fun _ hf => ?_)
    · obtain ⟨_, hx0, rfl⟩ := xr_inv hf
      exact WW.sub [2] rfl (t_X1_writeTo_39 hB hx0 hk)
    · refine r_aload_n hB 1 rfl (by decide +kernel : decode cX1_writeTo 23 = .ok (.aload_n 1, 1)) rfl ?_
      refine r_iload_n hB 2 rfl (by decide +kernel : decode cX1_writeTo 24 = .ok (.iload_n 2, 1)) rfl ?_
      refine r_cVv hB [.int l2] [] cf10 (own := "PulseRemote$Collision") rfl cmX10_put imX10_put (Or.inl k_874) (by decide) rfl rfl rfl (Nat.le_of_ble_eq_true rfl) (by decide +kernel : decode cX1_writeTo 25 = .ok (.invokevirtual 71, 3)) (fun z hz => m_X10_put _ _ _ _ hz) rfl hf (fun z25 hf => ?_)
      refine r_aload_n hB 0 rfl (by decide +kernel : decode cX1_writeTo 28 = .ok (.aload_n 0, 1)) rfl ?_
      refine r_cVi hB [] [] cf1 (own := "PulseRemote$Collision") rfl cmX1_nextDuration imX1_nextDuration (Or.inl k_869) (by decide) rfl rfl rfl (Nat.le_of_ble_eq_true rfl) (by decide +kernel : decode cX1_writeTo 29 = .ok (.invokevirtual 67, 3)) (fun z hz => m_X1_nextDuration _ _ _ _ hz) rfl hf (fun z29 hf => ?_)
      refine r_istore_n hB (by decide +kernel : decode cX1_writeTo 32 = .ok (.istore_n 2, 1)) rfl (by decide) rfl ?_
      refine ww_lv (lv' := [(2, .int z29.1), (0, .ref (b + l0)), (1, .ref (b + l1)), (3, .int l3)]) rfl ?_
      refine r_iincB hB 3 rfl (by decide +kernel : decode cX1_writeTo 33 = .ok (.iinc 3 1, 3)) (w := 1) (by decide +kernel) (by decide) hf (fun v33 hf => ?_)
      refine ww_lv (lv' := [(3, .int v33), (2, .int z29.1), (0, .ref (b + l0)), (1, .ref (b + l1))]) rfl ?_
      refine r_goto hB (tgt := 12) (by decide +kernel : decode cX1_writeTo 36 = .ok (.goto (-24), 3)) (by decide) ?_
      obtain rfl := Option.some.inj hf
      exact WW.sub [2, 3, 1, 0] rfl hk
set_option maxHeartbeats 4000000 in
set_option maxRecDepth 100000 in
theorem t_X1_writeTo_12 {X : BX} {D : va_G} {cy : Nat → ClassId} {b : Nat} {r : Option Value} {μ' : MS} (hB : BB X D cy b yX1_writeTo cX1_writeTo 4 (some .boolean) rmX1_writeTo) {l0 : Nat} {l1 : Nat} {l2 : Int32} {l3 : Int32} {μ : MS} {z : (Int32 × MS)} (hf : f_X1_writeTo_12 l0 l1 l2 l3 μ = some z) (hk : (fun z : Int32 × MS => r = some (.int z.1) ∧ μ' = z.2) z) : WW X D cy b r μ' 4 0 0 12 [(0, .ref (b + l0)), (1, .ref (b + l1)), (2, .int l2), (3, .int l3)] [] μ :=
  lp_ind (P := fun s : Nat × Nat × Int32 × Int32 × MS => WW X D cy b r μ' 4 0 0 12 [(0, .ref (b + s.1)), (1, .ref (b + s.2.1)), (2, .int s.2.2.1), (3, .int s.2.2.2.1)] [] s.2.2.2.2) (Q := (fun z : Int32 × MS => r = some (.int z.1) ∧ μ' = z.2)) (fun s z hz hk => t_X1_writeTo_12_b hB hz hk) (l0, l1, l2, l3, μ) z hf hk
set_option maxHeartbeats 4000000 in
set_option maxRecDepth 100000 in
theorem t_X1_writeTo_0 {X : BX} {D : va_G} {cy : Nat → ClassId} {b : Nat} {r : Option Value} {μ' : MS} (hB : BB X D cy b yX1_writeTo cX1_writeTo 4 (some .boolean) rmX1_writeTo) {l0 : Nat} {l1 : Nat} {μ : MS} {z : (Int32 × MS)} (hf : f_X1_writeTo l0 l1 μ = some z) (hk : (fun z : Int32 × MS => r = some (.int z.1) ∧ μ' = z.2) z) : WW X D cy b r μ' 4 0 0 0 [(0, .ref (b + l0)), (1, .ref (b + l1))] [] μ := by
  unfold f_X1_writeTo at hf
  refine r_aload_n hB 1 rfl (by decide +kernel : decode cX1_writeTo 0 = .ok (.aload_n 1, 1)) rfl ?_
  refine r_iconst hB (v := 0) (by decide +kernel : decode cX1_writeTo 1 = .ok (.iconst 0, 1)) (by decide +kernel) ?_
  refine r_pI hB cf10 1 (by decide) (own := "PulseRemote$Collision") rfl (Or.inr ⟨_, k_140⟩) (Or.inl rfl) rfl (by decide +kernel : decode cX1_writeTo 2 = .ok (.putfield 44, 3)) hf (fun m2 hf => ?_)
  refine r_aload_n hB 0 rfl (by decide +kernel : decode cX1_writeTo 5 = .ok (.aload_n 0, 1)) rfl ?_
  refine r_cVi hB [] [] cf1 (own := "PulseRemote$Collision") rfl cmX1_nextDuration imX1_nextDuration (Or.inl k_869) (by decide) rfl rfl rfl (Nat.le_of_ble_eq_true rfl) (by decide +kernel : decode cX1_writeTo 6 = .ok (.invokevirtual 67, 3)) (fun z hz => m_X1_nextDuration _ _ _ _ hz) rfl hf (fun z6 hf => ?_)
  refine r_istore_n hB (by decide +kernel : decode cX1_writeTo 9 = .ok (.istore_n 2, 1)) rfl (by decide) rfl ?_
  refine ww_lv (lv' := [(2, .int z6.1), (0, .ref (b + l0)), (1, .ref (b + l1))]) rfl ?_
  refine r_iconst hB (v := 0) (by decide +kernel : decode cX1_writeTo 10 = .ok (.iconst 0, 1)) (by decide +kernel) ?_
  refine r_istore_n hB (by decide +kernel : decode cX1_writeTo 11 = .ok (.istore_n 3, 1)) rfl (by decide) rfl ?_
  refine ww_lv (lv' := [(3, .int 0), (2, .int z6.1), (0, .ref (b + l0)), (1, .ref (b + l1))]) rfl ?_
  exact WW.sub [2, 3, 1, 0] rfl (t_X1_writeTo_12 hB hf hk)
theorem m_X1_writeTo (l : Launch) (D : va_G) (cy : Nat → ClassId) (b : Nat) {l0 : Nat} {l1 : Nat} {μ : MS} {z : Int32 × MS} (hf : f_X1_writeTo l0 l1 μ = some z) : Met l yX1_writeTo (.code yX1_writeTo cX1_writeTo 4 (some .boolean) :: GW) rmX1_writeTo (Pw D cy b [.ref (b + l0), .ref (b + l1)] μ) (Qw D cy b (some (.int z.1)) (z.2)) rmX1_writeTo.cells rmX1_writeTo.slots (fun q => b ≤ q) :=
  met_of (by decide) (Nat.le_of_ble_eq_true rfl) (fun X hB _ => (t_X1_writeTo_0 hB hf ⟨rfl, rfl⟩))
-- PulseRemote$Train.longest()I
set_option maxHeartbeats 4000000 in
set_option maxRecDepth 100000 in
theorem t_X10_longest_28 {X : BX} {D : va_G} {cy : Nat → ClassId} {b : Nat} {r : Option Value} {μ' : MS} (hB : BB X D cy b yX10_longest cX10_longest 3 (some .int) rmX10_longest) {l1 : Int32} {μ : MS} {z : (Int32 × MS)} (hf : f_X10_longest_28 l1 μ = some z) (hk : (fun z : Int32 × MS => r = some (.int z.1) ∧ μ' = z.2) z) : WW X D cy b r μ' 3 0 0 28 [(1, .int l1)] [] μ := by
  unfold f_X10_longest_28 at hf
  refine r_iload_n hB 0 rfl (by decide +kernel : decode cX10_longest 28 = .ok (.iload_n 1, 1)) rfl ?_
  obtain rfl := Option.some.inj hf
  obtain ⟨rfl, rfl⟩ := hk
  exact r_iret hB (by decide +kernel : decode cX10_longest 29 = .ok (.ireturn, 1))
set_option maxHeartbeats 4000000 in
set_option maxRecDepth 100000 in
theorem t_X10_longest_4_b {X : BX} {D : va_G} {cy : Nat → ClassId} {b : Nat} {r : Option Value} {μ' : MS} (hB : BB X D cy b yX10_longest cX10_longest 3 (some .int) rmX10_longest) {l0 : Nat} {l1 : Int32} {l2 : Int32} {μ : MS} {z : ((Nat × Int32 × Int32 × MS) ⊕ (Int32 × MS))} (hf : f_X10_longest_4_b l0 l1 l2 μ = some z) (hk : (Sum.elim (fun s : Nat × Int32 × Int32 × MS => WW X D cy b r μ' 3 0 0 4 [(0, .ref (b + s.1)), (1, .int s.2.1), (2, .int s.2.2.1)] [] s.2.2.2) (fun z : Int32 × MS => r = some (.int z.1) ∧ μ' = z.2)) z) : WW X D cy b r μ' 3 0 0 4 [(0, .ref (b + l0)), (1, .int l1), (2, .int l2)] [] μ := by
  unfold f_X10_longest_4_b at hf
  refine r_iload_n hB 2 rfl (by decide +kernel : decode cX10_longest 4 = .ok (.iload_n 2, 1)) rfl ?_
  refine r_aload_n hB 0 rfl (by decide +kernel : decode cX10_longest 5 = .ok (.aload_n 0, 1)) rfl ?_
  refine r_gI hB cf10 1 (by decide) (own := "PulseRemote$Train") rfl (Or.inl k_138) (by decide +kernel) (by decide +kernel : decode cX10_longest 6 = .ok (.getfield 15, 3)) hf (fun x6 hf => ?_)
  refine r_icmp_ge hB (tgt := 28) (by decide +kernel : decode cX10_longest 9 = .ok (.if_icmp .ge 19, 3)) (by decide) hf (fun _ hf => ?_) (fun _ hf => ?_)
  · obtain ⟨_, hx0, rfl⟩ := xr_inv hf
    exact WW.sub [1] rfl (t_X10_longest_28 hB hx0 hk)
  · refine r_iload_n hB 1 rfl (by decide +kernel : decode cX10_longest 12 = .ok (.iload_n 1, 1)) rfl ?_
    refine r_aload_n hB 0 rfl (by decide +kernel : decode cX10_longest 13 = .ok (.aload_n 0, 1)) rfl ?_
    refine r_iload_n hB 2 rfl (by decide +kernel : decode cX10_longest 14 = .ok (.iload_n 2, 1)) rfl ?_
    refine r_cVi hB [.int l2] [.int l1] cf10 (own := "PulseRemote$Train") rfl cmX10_at imX10_at (Or.inl k_879) (by decide) rfl rfl rfl (Nat.le_of_ble_eq_true rfl) (by decide +kernel : decode cX10_longest 15 = .ok (.invokevirtual 27, 3)) (fun z hz => m_X10_at _ _ _ _ hz) rfl hf (fun z15 hf => ?_)
    refine r_max hB (own := "PulseRemote$Train") rfl k_474 k_475 k_34 k_476 (by decide +kernel : decode cX10_longest 18 = .ok (.invokestatic 31, 3)) (by decide) (Nat.le_of_ble_eq_true rfl) ?_
    refine r_name hf (fun v21 hf => ?_)
    refine r_istore_n hB (by decide +kernel : decode cX10_longest 21 = .ok (.istore_n 1, 1)) rfl (by decide) rfl ?_
    refine ww_lv (lv' := [(1, .int v21), (0, .ref (b + l0)), (2, .int l2)]) rfl ?_
    refine r_iincB hB 2 rfl (by decide +kernel : decode cX10_longest 22 = .ok (.iinc 2 1, 3)) (w := 1) (by decide +kernel) (by decide) hf (fun v22 hf => ?_)
    refine ww_lv (lv' := [(2, .int v22), (1, .int v21), (0, .ref (b + l0))]) rfl ?_
    refine r_goto hB (tgt := 4) (by decide +kernel : decode cX10_longest 25 = .ok (.goto (-21), 3)) (by decide) ?_
    obtain rfl := Option.some.inj hf
    exact WW.sub [2, 1, 0] rfl hk
set_option maxHeartbeats 4000000 in
set_option maxRecDepth 100000 in
theorem t_X10_longest_4 {X : BX} {D : va_G} {cy : Nat → ClassId} {b : Nat} {r : Option Value} {μ' : MS} (hB : BB X D cy b yX10_longest cX10_longest 3 (some .int) rmX10_longest) {l0 : Nat} {l1 : Int32} {l2 : Int32} {μ : MS} {z : (Int32 × MS)} (hf : f_X10_longest_4 l0 l1 l2 μ = some z) (hk : (fun z : Int32 × MS => r = some (.int z.1) ∧ μ' = z.2) z) : WW X D cy b r μ' 3 0 0 4 [(0, .ref (b + l0)), (1, .int l1), (2, .int l2)] [] μ :=
  lp_ind (P := fun s : Nat × Int32 × Int32 × MS => WW X D cy b r μ' 3 0 0 4 [(0, .ref (b + s.1)), (1, .int s.2.1), (2, .int s.2.2.1)] [] s.2.2.2) (Q := (fun z : Int32 × MS => r = some (.int z.1) ∧ μ' = z.2)) (fun s z hz hk => t_X10_longest_4_b hB hz hk) (l0, l1, l2, μ) z hf hk
set_option maxHeartbeats 4000000 in
set_option maxRecDepth 100000 in
theorem t_X10_longest_0 {X : BX} {D : va_G} {cy : Nat → ClassId} {b : Nat} {r : Option Value} {μ' : MS} (hB : BB X D cy b yX10_longest cX10_longest 3 (some .int) rmX10_longest) {l0 : Nat} {μ : MS} {z : (Int32 × MS)} (hf : f_X10_longest l0 μ = some z) (hk : (fun z : Int32 × MS => r = some (.int z.1) ∧ μ' = z.2) z) : WW X D cy b r μ' 3 0 0 0 [(0, .ref (b + l0))] [] μ := by
  unfold f_X10_longest at hf
  refine r_iconst hB (v := 0) (by decide +kernel : decode cX10_longest 0 = .ok (.iconst 0, 1)) (by decide +kernel) ?_
  refine r_istore_n hB (by decide +kernel : decode cX10_longest 1 = .ok (.istore_n 1, 1)) rfl (by decide) rfl ?_
  refine ww_lv (lv' := [(1, .int 0), (0, .ref (b + l0))]) rfl ?_
  refine r_iconst hB (v := 0) (by decide +kernel : decode cX10_longest 2 = .ok (.iconst 0, 1)) (by decide +kernel) ?_
  refine r_istore_n hB (by decide +kernel : decode cX10_longest 3 = .ok (.istore_n 2, 1)) rfl (by decide) rfl ?_
  refine ww_lv (lv' := [(2, .int 0), (1, .int 0), (0, .ref (b + l0))]) rfl ?_
  exact WW.sub [2, 1, 0] rfl (t_X10_longest_4 hB hf hk)
theorem m_X10_longest (l : Launch) (D : va_G) (cy : Nat → ClassId) (b : Nat) {l0 : Nat} {μ : MS} {z : Int32 × MS} (hf : f_X10_longest l0 μ = some z) : Met l yX10_longest (.code yX10_longest cX10_longest 3 (some .int) :: GW) rmX10_longest (Pw D cy b [.ref (b + l0)] μ) (Qw D cy b (some (.int z.1)) (z.2)) rmX10_longest.cells rmX10_longest.slots (fun q => b ≤ q) :=
  met_of (by decide) (Nat.le_of_ble_eq_true rfl) (fun X hB _ => (t_X10_longest_0 hB hf ⟨rfl, rfl⟩))
-- PulseRemote.overlay(III)I
set_option maxHeartbeats 4000000 in
set_option maxRecDepth 100000 in
theorem t_X11_overlay_0 {X : BX} {D : va_G} {cy : Nat → ClassId} {b : Nat} {r : Option Value} {μ' : MS} (hB : BB X D cy b yX11_overlay cX11_overlay 6 (some .int) rmX11_overlay) {l0 : Nat} {l1 : Int32} {l2 : Int32} {l3 : Int32} {μ : MS} {z : (Int32 × MS)} (hf : f_X11_overlay l0 l1 l2 l3 μ = some z) (hk : (fun z : Int32 × MS => r = some (.int z.1) ∧ μ' = z.2) z) : WW X D cy b r μ' 6 0 0 0 [(0, .ref (b + l0)), (1, .int l1), (2, .int l2), (3, .int l3)] [] μ := by
  unfold f_X11_overlay at hf
  refine r_iload_n hB 1 rfl (by decide +kernel : decode cX11_overlay 0 = .ok (.iload_n 1, 1)) rfl ?_
  refine r_cSi hB [.int l1] [] (own := "PulseRemote") rfl cmX11_isSlot smX11_isSlot (Or.inl ⟨rfl, k_485⟩) (by decide) rfl rfl rfl (Nat.le_of_ble_eq_true rfl) (by decide +kernel : decode cX11_overlay 1 = .ok (.invokestatic 156, 3)) (fun z hz => m_X11_isSlot _ _ _ _ hz) rfl hf (fun z1 hf => ?_)
  refine r_if_eq hB (tgt := 29) (by decide +kernel : decode cX11_overlay 4 = .ok (.ifCond .eq 25, 3)) (by decide) hf (fun _ hf => ?_) (fun _ hf => ?_)
  · refine r_iconst hB (v := (-1)) (by decide +kernel : decode cX11_overlay 29 = .ok (.iconst (-1), 1)) (by decide +kernel) ?_
    obtain rfl := Option.some.inj hf
    obtain ⟨rfl, rfl⟩ := hk
    exact r_iret hB (by decide +kernel : decode cX11_overlay 30 = .ok (.ireturn, 1))
  · refine r_iload_n hB 2 rfl (by decide +kernel : decode cX11_overlay 7 = .ok (.iload_n 2, 1)) rfl ?_
    refine r_cSi hB [.int l2] [] (own := "PulseRemote") rfl cmX11_isSlot smX11_isSlot (Or.inl ⟨rfl, k_485⟩) (by decide) rfl rfl rfl (Nat.le_of_ble_eq_true rfl) (by decide +kernel : decode cX11_overlay 8 = .ok (.invokestatic 156, 3)) (fun z hz => m_X11_isSlot _ _ _ _ hz) rfl hf (fun z8 hf => ?_)
    refine r_if_eq hB (tgt := 29) (by decide +kernel : decode cX11_overlay 11 = .ok (.ifCond .eq 18, 3)) (by decide) hf (fun _ hf => ?_) (fun _ hf => ?_)
    · refine r_iconst hB (v := (-1)) (by decide +kernel : decode cX11_overlay 29 = .ok (.iconst (-1), 1)) (by decide +kernel) ?_
      obtain rfl := Option.some.inj hf
      obtain ⟨rfl, rfl⟩ := hk
      exact r_iret hB (by decide +kernel : decode cX11_overlay 30 = .ok (.ireturn, 1))
    · refine r_iload_n hB 1 rfl (by decide +kernel : decode cX11_overlay 14 = .ok (.iload_n 1, 1)) rfl ?_
      refine r_iload_n hB 2 rfl (by decide +kernel : decode cX11_overlay 15 = .ok (.iload_n 2, 1)) rfl ?_
      refine r_icmp_eq hB (tgt := 29) (by decide +kernel : decode cX11_overlay 16 = .ok (.if_icmp .eq 13, 3)) (by decide) hf (fun _ hf => ?_) (fun _ hf => ?_)
      · refine r_iconst hB (v := (-1)) (by decide +kernel : decode cX11_overlay 29 = .ok (.iconst (-1), 1)) (by decide +kernel) ?_
        obtain rfl := Option.some.inj hf
        obtain ⟨rfl, rfl⟩ := hk
        exact r_iret hB (by decide +kernel : decode cX11_overlay 30 = .ok (.ireturn, 1))
      · refine r_iload_n hB 3 rfl (by decide +kernel : decode cX11_overlay 19 = .ok (.iload_n 3, 1)) rfl ?_
        refine r_iconst hB (v := 0) (by decide +kernel : decode cX11_overlay 20 = .ok (.iconst 0, 1)) (by decide +kernel) ?_
        refine r_ldc hB (v := 60000) (own := "PulseRemote") rfl k_836 (by decide +kernel : decode cX11_overlay 21 = .ok (.ldc 222, 2)) ?_
        refine r_cSi hB [.int l3, .int 0, .int 60000] [] (own := "PulseRemote") rfl cmX11_inRange smX11_inRange (Or.inl ⟨rfl, k_440⟩) (by decide) rfl rfl rfl (Nat.le_of_ble_eq_true rfl) (by decide +kernel : decode cX11_overlay 23 = .ok (.invokestatic 80, 3)) (fun z hz => m_X11_inRange _ _ _ _ hz) rfl hf (fun z23 hf => ?_)
        refine r_if_ne hB (tgt := 31) (by decide +kernel : decode cX11_overlay 26 = .ok (.ifCond .ne 5, 3)) (by decide) hf (fun _ hf => ?_) (fun _ hf => ?_)
        · refine r_iconst hB (v := (-1)) (by decide +kernel : decode cX11_overlay 29 = .ok (.iconst (-1), 1)) (by decide +kernel) ?_
          obtain rfl := Option.some.inj hf
          obtain ⟨rfl, rfl⟩ := hk
          exact r_iret hB (by decide +kernel : decode cX11_overlay 30 = .ok (.ireturn, 1))
        · refine r_aload_n hB 0 rfl (by decide +kernel : decode cX11_overlay 31 = .ok (.aload_n 0, 1)) rfl ?_
          refine r_gR hB cf11 0 (by decide) (own := "PulseRemote") rfl (Or.inl k_395) (by decide +kernel) (by decide +kernel : decode cX11_overlay 32 = .ok (.getfield 12, 3)) hf (fun x32 hf => ?_)
          refine r_iload_n hB 1 rfl (by decide +kernel : decode cX11_overlay 35 = .ok (.iload_n 1, 1)) rfl ?_
          refine r_cVr hB [.int l1] [] cf7 (own := "PulseRemote") rfl cmX7_trainAt imX7_trainAt (Or.inl k_488) (by decide) rfl rfl rfl (Nat.le_of_ble_eq_true rfl) (by decide +kernel : decode cX11_overlay 36 = .ok (.invokevirtual 159, 3)) (fun z hz => m_X7_trainAt _ _ _ _ hz) rfl hf (fun z36 hf => ?_)
          refine r_astore hB (by decide +kernel : decode cX11_overlay 39 = .ok (.astore 4, 2)) (by decide) rfl ?_
          refine ww_lv (lv' := [(4, .ref (b + z36.1)), (0, .ref (b + l0)), (1, .int l1), (2, .int l2), (3, .int l3)]) rfl ?_
          refine r_aload_n hB 1 rfl (by decide +kernel : decode cX11_overlay 41 = .ok (.aload_n 0, 1)) rfl ?_
          refine r_gR hB cf11 0 (by decide) (own := "PulseRemote") rfl (Or.inl k_395) (by decide +kernel) (by decide +kernel : decode cX11_overlay 42 = .ok (.getfield 12, 3)) hf (fun x42 hf => ?_)
          refine r_iload_n hB 3 rfl (by decide +kernel : decode cX11_overlay 45 = .ok (.iload_n 2, 1)) rfl ?_
          refine r_cVr hB [.int l2] [] cf7 (own := "PulseRemote") rfl cmX7_trainAt imX7_trainAt (Or.inl k_488) (by decide) rfl rfl rfl (Nat.le_of_ble_eq_true rfl) (by decide +kernel : decode cX11_overlay 46 = .ok (.invokevirtual 159, 3)) (fun z hz => m_X7_trainAt _ _ _ _ hz) rfl hf (fun z46 hf => ?_)
          refine r_astore hB (by decide +kernel : decode cX11_overlay 49 = .ok (.astore 5, 2)) (by decide) rfl ?_
          refine ww_lv (lv' := [(5, .ref (b + z46.1)), (4, .ref (b + z36.1)), (0, .ref (b + l0)), (1, .int l1), (2, .int l2), (3, .int l3)]) rfl ?_
          refine r_aload hB 1 rfl (by decide +kernel : decode cX11_overlay 51 = .ok (.aload 4, 2)) ?_
          refine r_cVi hB [] [] cf10 (own := "PulseRemote") rfl cmX10_endsWithMark imX10_endsWithMark (Or.inl k_850) (by decide) rfl rfl rfl (Nat.le_of_ble_eq_true rfl) (by decide +kernel : decode cX11_overlay 53 = .ok (.invokevirtual 260, 3)) (fun z hz => m_X10_endsWithMark _ _ _ _ hz) rfl hf (fun z53 hf => ?_)
          refine r_if_eq hB (tgt := 67) (by decide +kernel : decode cX11_overlay 56 = .ok (.ifCond .eq 11, 3)) (by decide) hf (fun _ hf => ?_) (fun _ hf => ?_)
          · refine r_bipush hB (v := (-2)) (by decide +kernel : decode cX11_overlay 67 = .ok (.bipush (-2), 2)) (by decide +kernel) ?_
            obtain rfl := Option.some.inj hf
            obtain ⟨rfl, rfl⟩ := hk
            exact r_iret hB (by decide +kernel : decode cX11_overlay 69 = .ok (.ireturn, 1))
          · refine r_aload hB 0 rfl (by decide +kernel : decode cX11_overlay 59 = .ok (.aload 5, 2)) ?_
            refine r_cVi hB [] [] cf10 (own := "PulseRemote") rfl cmX10_endsWithMark imX10_endsWithMark (Or.inl k_850) (by decide) rfl rfl rfl (Nat.le_of_ble_eq_true rfl) (by decide +kernel : decode cX11_overlay 61 = .ok (.invokevirtual 260, 3)) (fun z hz => m_X10_endsWithMark _ _ _ _ hz) rfl hf (fun z61 hf => ?_)
            refine r_if_ne hB (tgt := 70) (by decide +kernel : decode cX11_overlay 64 = .ok (.ifCond .ne 6, 3)) (by decide) hf (fun _ hf => ?_) (fun _ hf => ?_)
            · refine r_bipush hB (v := (-2)) (by decide +kernel : decode cX11_overlay 67 = .ok (.bipush (-2), 2)) (by decide +kernel) ?_
              obtain rfl := Option.some.inj hf
              obtain ⟨rfl, rfl⟩ := hk
              exact r_iret hB (by decide +kernel : decode cX11_overlay 69 = .ok (.ireturn, 1))
            · refine r_aload_n hB 2 rfl (by decide +kernel : decode cX11_overlay 70 = .ok (.aload_n 0, 1)) rfl ?_
              refine r_gR hB cf11 11 (by decide) (own := "PulseRemote") rfl (Or.inl k_406) (by decide +kernel) (by decide +kernel : decode cX11_overlay 71 = .ok (.getfield 76, 3)) hf (fun x71 hf => ?_)
              refine r_aload hB 1 rfl (by decide +kernel : decode cX11_overlay 74 = .ok (.aload 4, 2)) ?_
              refine r_aload hB 0 rfl (by decide +kernel : decode cX11_overlay 76 = .ok (.aload 5, 2)) ?_
              refine r_cVv hB [.ref (b + z36.1), .ref (b + z46.1)] [] cf1 (own := "PulseRemote") rfl cmX1_lay imX1_lay (Or.inl k_851) (by decide) rfl rfl rfl (Nat.le_of_ble_eq_true rfl) (by decide +kernel : decode cX11_overlay 78 = .ok (.invokevirtual 263, 3)) (fun z hz => m_X1_lay _ _ _ _ hz) rfl hf (fun z78 hf => ?_)
              refine r_aload_n hB 2 rfl (by decide +kernel : decode cX11_overlay 81 = .ok (.aload_n 0, 1)) rfl ?_
              refine r_gR hB cf11 11 (by decide) (own := "PulseRemote") rfl (Or.inl k_406) (by decide +kernel) (by decide +kernel : decode cX11_overlay 82 = .ok (.getfield 76, 3)) hf (fun x82 hf => ?_)
              refine r_iload_n hB 5 rfl (by decide +kernel : decode cX11_overlay 85 = .ok (.iload_n 3, 1)) rfl ?_
              refine r_cVv hB [.int l3] [] cf1 (own := "PulseRemote") rfl cmX1_begin imX1_begin (Or.inl k_856) (by decide) rfl rfl rfl (Nat.le_of_ble_eq_true rfl) (by decide +kernel : decode cX11_overlay 86 = .ok (.invokevirtual 267, 3)) (fun z hz => m_X1_begin _ _ _ _ hz) rfl hf (fun z86 hf => ?_)
              refine r_aload_n hB 2 rfl (by decide +kernel : decode cX11_overlay 89 = .ok (.aload_n 0, 1)) rfl ?_
              refine r_gR hB cf11 11 (by decide) (own := "PulseRemote") rfl (Or.inl k_406) (by decide +kernel) (by decide +kernel : decode cX11_overlay 90 = .ok (.getfield 76, 3)) hf (fun x90 hf => ?_)
              refine r_aload_n hB 2 rfl (by decide +kernel : decode cX11_overlay 93 = .ok (.aload_n 0, 1)) rfl ?_
              refine r_gR hB cf11 5 (by decide) (own := "PulseRemote") rfl (Or.inl k_400) (by decide +kernel) (by decide +kernel : decode cX11_overlay 94 = .ok (.getfield 37, 3)) hf (fun x94 hf => ?_)
              refine r_cVi hB [.ref (b + x94)] [] cf1 (own := "PulseRemote") rfl cmX1_writeTo imX1_writeTo (Or.inl k_865) (by decide) rfl rfl rfl (Nat.le_of_ble_eq_true rfl) (by decide +kernel : decode cX11_overlay 97 = .ok (.invokevirtual 270, 3)) (fun z hz => m_X1_writeTo _ _ _ _ hz) rfl hf (fun z97 hf => ?_)
              refine r_if_eq hB (tgt := 115) (by decide +kernel : decode cX11_overlay 100 = .ok (.ifCond .eq 15, 3)) (by decide) hf (fun _ hf => ?_) (fun _ hf => ?_)
              · refine r_bipush hB (v := (-3)) (by decide +kernel : decode cX11_overlay 115 = .ok (.bipush (-3), 2)) (by decide +kernel) ?_
                obtain rfl := Option.some.inj hf
                obtain ⟨rfl, rfl⟩ := hk
                exact r_iret hB (by decide +kernel : decode cX11_overlay 117 = .ok (.ireturn, 1))
              · refine r_aload_n hB 2 rfl (by decide +kernel : decode cX11_overlay 103 = .ok (.aload_n 0, 1)) rfl ?_
                refine r_gR hB cf11 5 (by decide) (own := "PulseRemote") rfl (Or.inl k_400) (by decide +kernel) (by decide +kernel : decode cX11_overlay 104 = .ok (.getfield 37, 3)) hf (fun x104 hf => ?_)
                refine r_cVi hB [] [] cf10 (own := "PulseRemote") rfl cmX10_longest imX10_longest (Or.inl k_875) (by decide) rfl rfl rfl (Nat.le_of_ble_eq_true rfl) (by decide +kernel : decode cX11_overlay 107 = .ok (.invokevirtual 274, 3)) (fun z hz => m_X10_longest _ _ _ _ hz) rfl hf (fun z107 hf => ?_)
                refine r_ldc hB (v := 60000) (own := "PulseRemote") rfl k_836 (by decide +kernel : decode cX11_overlay 110 = .ok (.ldc 222, 2)) ?_
                refine r_icmp_le hB (tgt := 118) (by decide +kernel : decode cX11_overlay 112 = .ok (.if_icmp .le 6, 3)) (by decide) hf (fun _ hf => ?_) (fun _ hf => ?_)
                · refine r_aload_n hB 2 rfl (by decide +kernel : decode cX11_overlay 118 = .ok (.aload_n 0, 1)) rfl ?_
                  refine r_cVv hB [] [] cf11 (own := "PulseRemote") rfl cmX11_saveState imX11_saveState (Or.inl k_443) (by decide) rfl rfl rfl (Nat.le_of_ble_eq_true rfl) (by decide +kernel : decode cX11_overlay 119 = .ok (.invokevirtual 91, 3)) (fun z hz => m_X11_saveState _ _ _ _ hz) rfl hf (fun z119 hf => ?_)
                  refine r_aload hB 1 rfl (by decide +kernel : decode cX11_overlay 122 = .ok (.aload 4, 2)) ?_
                  refine r_aload_n hB 2 rfl (by decide +kernel : decode cX11_overlay 124 = .ok (.aload_n 0, 1)) rfl ?_
                  refine r_gR hB cf11 5 (by decide) (own := "PulseRemote") rfl (Or.inl k_400) (by decide +kernel) (by decide +kernel : decode cX11_overlay 125 = .ok (.getfield 37, 3)) hf (fun x125 hf => ?_)
                  refine r_cVv hB [.ref (b + x125)] [] cf10 (own := "PulseRemote") rfl cmX10_copyFrom imX10_copyFrom (Or.inl k_880) (by decide) rfl rfl rfl (Nat.le_of_ble_eq_true rfl) (by decide +kernel : decode cX11_overlay 128 = .ok (.invokevirtual 278, 3)) (fun z hz => m_X10_copyFrom _ _ _ _ hz) rfl hf (fun z128 hf => ?_)
                  refine r_aload hB 1 rfl (by decide +kernel : decode cX11_overlay 131 = .ok (.aload 4, 2)) ?_
                  refine r_gI hB cf10 1 (by decide) (own := "PulseRemote") rfl (Or.inr ⟨_, k_142⟩) (by decide +kernel) (by decide +kernel : decode cX11_overlay 133 = .ok (.getfield 244, 3)) hf (fun x133 hf => ?_)
                  obtain rfl := Option.some.inj hf
                  obtain ⟨rfl, rfl⟩ := hk
                  exact r_iret hB (by decide +kernel : decode cX11_overlay 136 = .ok (.ireturn, 1))
                · refine r_bipush hB (v := (-3)) (by decide +kernel : decode cX11_overlay 115 = .ok (.bipush (-3), 2)) (by decide +kernel) ?_
                  obtain rfl := Option.some.inj hf
                  obtain ⟨rfl, rfl⟩ := hk
                  exact r_iret hB (by decide +kernel : decode cX11_overlay 117 = .ok (.ireturn, 1))
theorem m_X11_overlay (l : Launch) (D : va_G) (cy : Nat → ClassId) (b : Nat) {l0 : Nat} {l1 : Int32} {l2 : Int32} {l3 : Int32} {μ : MS} {z : Int32 × MS} (hf : f_X11_overlay l0 l1 l2 l3 μ = some z) : Met l yX11_overlay (.code yX11_overlay cX11_overlay 6 (some .int) :: GW) rmX11_overlay (Pw D cy b [.ref (b + l0), .int l1, .int l2, .int l3] μ) (Qw D cy b (some (.int z.1)) (z.2)) rmX11_overlay.cells rmX11_overlay.slots (fun q => b ≤ q) :=
  met_of (by decide) (Nat.le_of_ble_eq_true rfl) (fun X hB _ => (t_X11_overlay_0 hB hf ⟨rfl, rfl⟩))
-- PulseRemote$Train.stretch(I)I
set_option maxHeartbeats 4000000 in
set_option maxRecDepth 100000 in
theorem t_X10_stretch_102 {X : BX} {D : va_G} {cy : Nat → ClassId} {b : Nat} {r : Option Value} {μ' : MS} (hB : BB X D cy b yX10_stretch cX10_stretch 6 (some .int) rmX10_stretch) {l2 : Int32} {μ : MS} {z : (Int32 × MS)} (hf : f_X10_stretch_102 l2 μ = some z) (hk : (fun z : Int32 × MS => r = some (.int z.1) ∧ μ' = z.2) z) : WW X D cy b r μ' 6 0 0 102 [(2, .int l2)] [] μ := by
  unfold f_X10_stretch_102 at hf
  refine r_iload_n hB 0 rfl (by decide +kernel : decode cX10_stretch 102 = .ok (.iload_n 2, 1)) rfl ?_
  obtain rfl := Option.some.inj hf
  obtain ⟨rfl, rfl⟩ := hk
  exact r_iret hB (by decide +kernel : decode cX10_stretch 103 = .ok (.ireturn, 1))
set_option maxHeartbeats 4000000 in
set_option maxRecDepth 100000 in
theorem t_X10_stretch_88 {X : BX} {D : va_G} {cy : Nat → ClassId} {b : Nat} {r : Option Value} {μ' : MS} (hB : BB X D cy b yX10_stretch cX10_stretch 6 (some .int) rmX10_stretch) {l0 : Nat} {l1 : Int32} {l2 : Int32} {l3 : Int32} {l5 : Int32} {μ : MS} {z : ((Nat × Int32 × Int32 × Int32 × MS) ⊕ (Int32 × MS))} (hf : f_X10_stretch_88 l0 l1 l2 l3 l5 μ = some z) (hk : (Sum.elim (fun s : Nat × Int32 × Int32 × Int32 × MS => WW X D cy b r μ' 6 0 0 4 [(0, .ref (b + s.1)), (1, .int s.2.1), (2, .int s.2.2.1), (3, .int s.2.2.2.1)] [] s.2.2.2.2) (fun z : Int32 × MS => r = some (.int z.1) ∧ μ' = z.2)) z) : WW X D cy b r μ' 6 0 0 88 [(0, .ref (b + l0)), (1, .int l1), (2, .int l2), (3, .int l3), (5, .int l5)] [] μ := by
  unfold f_X10_stretch_88 at hf
  refine r_aload_n hB 0 rfl (by decide +kernel : decode cX10_stretch 88 = .ok (.aload_n 0, 1)) rfl ?_
  refine r_gR hB cf10 0 (by decide) (own := "PulseRemote$Train") rfl (Or.inl k_137) (by decide +kernel) (by decide +kernel : decode cX10_stretch 89 = .ok (.getfield 9, 3)) hf (fun x89 hf => ?_)
  refine r_iload_n hB 3 rfl (by decide +kernel : decode cX10_stretch 92 = .ok (.iload_n 3, 1)) rfl ?_
  refine r_iload hB 4 rfl (by decide +kernel : decode cX10_stretch 93 = .ok (.iload 5, 2)) ?_
  refine r_iast hB (by decide +kernel : decode cX10_stretch 95 = .ok (.iastore, 1)) hf (fun m95 hf => ?_)
  refine r_iincB hB 3 rfl (by decide +kernel : decode cX10_stretch 96 = .ok (.iinc 3 1, 3)) (w := 1) (by decide +kernel) (by decide) hf (fun v96 hf => ?_)
  refine ww_lv (lv' := [(3, .int v96), (0, .ref (b + l0)), (1, .int l1), (2, .int l2), (5, .int l5)]) rfl ?_
  refine r_goto hB (tgt := 4) (by decide +kernel : decode cX10_stretch 99 = .ok (.goto (-95), 3)) (by decide) ?_
  obtain rfl := Option.some.inj hf
  exact WW.sub [1, 2, 3, 0] rfl hk
set_option maxHeartbeats 4000000 in
set_option maxRecDepth 100000 in
theorem t_X10_stretch_42 {X : BX} {D : va_G} {cy : Nat → ClassId} {b : Nat} {r : Option Value} {μ' : MS} (hB : BB X D cy b yX10_stretch cX10_stretch 6 (some .int) rmX10_stretch) {l0 : Nat} {l1 : Int32} {l2 : Int32} {l3 : Int32} {s0 : Int32} {μ : MS} {z : ((Nat × Int32 × Int32 × Int32 × MS) ⊕ (Int32 × MS))} (hf : f_X10_stretch_42 l0 l1 l2 l3 s0 μ = some z) (hk : (Sum.elim (fun s : Nat × Int32 × Int32 × Int32 × MS => WW X D cy b r μ' 6 0 0 4 [(0, .ref (b + s.1)), (1, .int s.2.1), (2, .int s.2.2.1), (3, .int s.2.2.2.1)] [] s.2.2.2.2) (fun z : Int32 × MS => r = some (.int z.1) ∧ μ' = z.2)) z) : WW X D cy b r μ' 6 0 0 42 [(0, .ref (b + l0)), (1, .int l1), (2, .int l2), (3, .int l3)] [.int s0] μ := by
  unfold f_X10_stretch_42 at hf
  refine r_istore hB (by decide +kernel : decode cX10_stretch 42 = .ok (.istore 4, 2)) (by decide) rfl ?_
  refine ww_lv (lv' := [(4, .int s0), (0, .ref (b + l0)), (1, .int l1), (2, .int l2), (3, .int l3)]) rfl ?_
  refine r_aload_n hB 1 rfl (by decide +kernel : decode cX10_stretch 44 = .ok (.aload_n 0, 1)) rfl ?_
  refine r_gR hB cf10 0 (by decide) (own := "PulseRemote$Train") rfl (Or.inl k_137) (by decide +kernel) (by decide +kernel : decode cX10_stretch 45 = .ok (.getfield 9, 3)) hf (fun x45 hf => ?_)
  refine r_iload_n hB 4 rfl (by decide +kernel : decode cX10_stretch 48 = .ok (.iload_n 3, 1)) rfl ?_
  refine r_iald hB (by decide +kernel : decode cX10_stretch 49 = .ok (.iaload, 1)) hf (fun x49 hf => ?_)
  refine r_bipush hB (v := 100) (by decide +kernel : decode cX10_stretch 50 = .ok (.bipush 100, 2)) (by decide +kernel) ?_
  refine r_iload hB 0 rfl (by decide +kernel : decode cX10_stretch 52 = .ok (.iload 4, 2)) ?_
  refine r_iadd hB (by decide +kernel : decode cX10_stretch 54 = .ok (.iadd, 1)) ?_
  refine r_imul hB (by decide +kernel : decode cX10_stretch 55 = .ok (.imul, 1)) ?_
  refine r_bipush hB (v := 100) (by decide +kernel : decode cX10_stretch 56 = .ok (.bipush 100, 2)) (by decide +kernel) ?_
  refine r_idiv hB (by decide +kernel : decode cX10_stretch 58 = .ok (.idiv, 1)) hf (fun v58 hf => ?_)
  refine r_istore hB (by decide +kernel : decode cX10_stretch 59 = .ok (.istore 5, 2)) (by decide) rfl ?_
  refine ww_lv (lv' := [(5, .int v58), (4, .int s0), (0, .ref (b + l0)), (1, .int l1), (2, .int l2), (3, .int l3)]) rfl ?_
  refine r_iload hB 0 rfl (by decide +kernel : decode cX10_stretch 61 = .ok (.iload 5, 2)) ?_
  refine r_iconst hB (v := 1) (by decide +kernel : decode cX10_stretch 63 = .ok (.iconst 1, 1)) (by decide +kernel) ?_
  refine r_max hB (own := "PulseRemote$Train") rfl k_474 k_475 k_34 k_476 (by decide +kernel : decode cX10_stretch 64 = .ok (.invokestatic 31, 3)) (by decide) (Nat.le_of_ble_eq_true rfl) ?_
  refine r_ldc hB (v := 60000) (own := "PulseRemote$Train") rfl k_889 (by decide +kernel : decode cX10_stretch 67 = .ok (.ldc 37, 2)) ?_
  refine r_min hB (own := "PulseRemote$Train") rfl k_477 k_478 k_34 k_479 (by decide +kernel : decode cX10_stretch 69 = .ok (.invokestatic 38, 3)) (by decide) (Nat.le_of_ble_eq_true rfl) ?_
  refine r_name hf (fun v72 hf => ?_)
  refine r_istore hB (by decide +kernel : decode cX10_stretch 72 = .ok (.istore 5, 2)) (by decide) rfl ?_
  refine ww_lv (lv' := [(5, .int v72), (4, .int s0), (0, .ref (b + l0)), (1, .int l1), (2, .int l2), (3, .int l3)]) rfl ?_
  refine r_iload hB 0 rfl (by decide +kernel : decode cX10_stretch 74 = .ok (.iload 5, 2)) ?_
  refine r_aload_n hB 2 rfl (by decide +kernel : decode cX10_stretch 76 = .ok (.aload_n 0, 1)) rfl ?_
  refine r_gR hB cf10 0 (by decide) (own := "PulseRemote$Train") rfl (Or.inl k_137) (by decide +kernel) (by decide +kernel : decode cX10_stretch 77 = .ok (.getfield 9, 3)) hf (fun x77 hf => ?_)
  refine r_iload_n hB 5 rfl (by decide +kernel : decode cX10_stretch 80 = .ok (.iload_n 3, 1)) rfl ?_
  refine r_iald hB (by decide +kernel : decode cX10_stretch 81 = .ok (.iaload, 1)) hf (fun x81 hf => ?_)
  refine r_icmp_eq hB (tgt := 88) (by decide +kernel : decode cX10_stretch 82 = .ok (.if_icmp .eq 6, 3)) (by decide) hf (fun _ hf => ?_) (fun _ hf => ?_)
  · exact WW.sub [2, 3, 4, 5, 0] rfl (t_X10_stretch_88 hB hf hk)
  · refine r_iincB hB 4 rfl (by decide +kernel : decode cX10_stretch 85 = .ok (.iinc 2 1, 3)) (w := 1) (by decide +kernel) (by decide) hf (fun v85 hf => ?_)
    refine ww_lv (lv' := [(2, .int v85), (5, .int v72), (4, .int s0), (0, .ref (b + l0)), (1, .int l1), (3, .int l3)]) rfl ?_
    exact WW.sub [3, 4, 0, 5, 1] rfl (t_X10_stretch_88 hB hf hk)
set_option maxHeartbeats 4000000 in
set_option maxRecDepth 100000 in
theorem t_X10_stretch_4_b {X : BX} {D : va_G} {cy : Nat → ClassId} {b : Nat} {r : Option Value} {μ' : MS} (hB : BB X D cy b yX10_stretch cX10_stretch 6 (some .int) rmX10_stretch) {l0 : Nat} {l1 : Int32} {l2 : Int32} {l3 : Int32} {μ : MS} {z : ((Nat × Int32 × Int32 × Int32 × MS) ⊕ (Int32 × MS))} (hf : f_X10_stretch_4_b l0 l1 l2 l3 μ = some z) (hk : (Sum.elim (fun s : Nat × Int32 × Int32 × Int32 × MS => WW X D cy b r μ' 6 0 0 4 [(0, .ref (b + s.1)), (1, .int s.2.1), (2, .int s.2.2.1), (3, .int s.2.2.2.1)] [] s.2.2.2.2) (fun z : Int32 × MS => r = some (.int z.1) ∧ μ' = z.2)) z) : WW X D cy b r μ' 6 0 0 4 [(0, .ref (b + l0)), (1, .int l1), (2, .int l2), (3, .int l3)] [] μ := by
  unfold f_X10_stretch_4_b at hf
  refine r_iload_n hB 3 rfl (by decide +kernel : decode cX10_stretch 4 = .ok (.iload_n 3, 1)) rfl ?_
  refine r_aload_n hB 0 rfl (by decide +kernel : decode cX10_stretch 5 = .ok (.aload_n 0, 1)) rfl ?_
  refine r_gI hB cf10 1 (by decide) (own := "PulseRemote$Train") rfl (Or.inl k_138) (by decide +kernel) (by decide +kernel : decode cX10_stretch 6 = .ok (.getfield 15, 3)) hf (fun x6 hf => ?_)
  refine r_icmp_ge hB (tgt := 102) (by decide +kernel : decode cX10_stretch 9 = .ok (.if_icmp .ge 93, 3)) (by decide) hf (fun _ hf => ?_) (fun _ hf => ?_)
  · obtain ⟨_, hx0, rfl⟩ := xr_inv hf
    exact WW.sub [2] rfl (t_X10_stretch_102 hB hx0 hk)
  · refine r_iload_n hB 3 rfl (by decide +kernel : decode cX10_stretch 12 = .ok (.iload_n 3, 1)) rfl ?_
    refine r_sipush hB (v := 200) (by decide +kernel : decode cX10_stretch 13 = .ok (.sipush 200, 3)) (by decide +kernel) ?_
    refine r_icmp_ge hB (tgt := 102) (by decide +kernel : decode cX10_stretch 16 = .ok (.if_icmp .ge 86, 3)) (by decide) hf (fun _ hf => ?_) (fun _ hf => ?_)
    · obtain ⟨_, hx0, rfl⟩ := xr_inv hf
      exact WW.sub [2] rfl (t_X10_stretch_102 hB hx0 hk)
    · refine r_iload_n hB 3 rfl (by decide +kernel : decode cX10_stretch 19 = .ok (.iload_n 3, 1)) rfl ?_
      refine r_iconst hB (v := 3) (by decide +kernel : decode cX10_stretch 20 = .ok (.iconst 3, 1)) (by decide +kernel) ?_
      refine r_irem hB (by decide +kernel : decode cX10_stretch 21 = .ok (.irem, 1)) hf (fun v21 hf => ?_)
      refine r_if_ne hB (tgt := 30) (by decide +kernel : decode cX10_stretch 22 = .ok (.ifCond .ne 8, 3)) (by decide) hf (fun _ hf => ?_) (fun _ hf => ?_)
      · refine r_iload_n hB 1 rfl (by decide +kernel : decode cX10_stretch 25 = .ok (.iload_n 1, 1)) rfl ?_
        refine r_ineg hB (by decide +kernel : decode cX10_stretch 26 = .ok (.ineg, 1)) ?_
        refine r_goto hB (tgt := 42) (by decide +kernel : decode cX10_stretch 27 = .ok (.goto 15, 3)) (by decide) ?_
        exact WW.sub [0, 1, 2, 3] rfl (t_X10_stretch_42 hB hf hk)
      · refine r_iload_n hB 3 rfl (by decide +kernel : decode cX10_stretch 30 = .ok (.iload_n 3, 1)) rfl ?_
        refine r_iconst hB (v := 3) (by decide +kernel : decode cX10_stretch 31 = .ok (.iconst 3, 1)) (by decide +kernel) ?_
        refine r_irem hB (by decide +kernel : decode cX10_stretch 32 = .ok (.irem, 1)) hf (fun v32 hf => ?_)
        refine r_iconst hB (v := 1) (by decide +kernel : decode cX10_stretch 33 = .ok (.iconst 1, 1)) (by decide +kernel) ?_
        refine r_icmp_ne hB (tgt := 41) (by decide +kernel : decode cX10_stretch 34 = .ok (.if_icmp .ne 7, 3)) (by decide) hf (fun _ hf => ?_) (fun _ hf => ?_)
        · refine r_iconst hB (v := 0) (by decide +kernel : decode cX10_stretch 37 = .ok (.iconst 0, 1)) (by decide +kernel) ?_
          refine r_goto hB (tgt := 42) (by decide +kernel : decode cX10_stretch 38 = .ok (.goto 4, 3)) (by decide) ?_
          exact WW.sub [0, 1, 2, 3] rfl (t_X10_stretch_42 hB hf hk)
        · refine r_iload_n hB 1 rfl (by decide +kernel : decode cX10_stretch 41 = .ok (.iload_n 1, 1)) rfl ?_
          exact WW.sub [0, 1, 2, 3] rfl (t_X10_stretch_42 hB hf hk)
set_option maxHeartbeats 4000000 in
set_option maxRecDepth 100000 in
theorem t_X10_stretch_4 {X : BX} {D : va_G} {cy : Nat → ClassId} {b : Nat} {r : Option Value} {μ' : MS} (hB : BB X D cy b yX10_stretch cX10_stretch 6 (some .int) rmX10_stretch) {l0 : Nat} {l1 : Int32} {l2 : Int32} {l3 : Int32} {μ : MS} {z : (Int32 × MS)} (hf : f_X10_stretch_4 l0 l1 l2 l3 μ = some z) (hk : (fun z : Int32 × MS => r = some (.int z.1) ∧ μ' = z.2) z) : WW X D cy b r μ' 6 0 0 4 [(0, .ref (b + l0)), (1, .int l1), (2, .int l2), (3, .int l3)] [] μ :=
  lp_ind (P := fun s : Nat × Int32 × Int32 × Int32 × MS => WW X D cy b r μ' 6 0 0 4 [(0, .ref (b + s.1)), (1, .int s.2.1), (2, .int s.2.2.1), (3, .int s.2.2.2.1)] [] s.2.2.2.2) (Q := (fun z : Int32 × MS => r = some (.int z.1) ∧ μ' = z.2)) (fun s z hz hk => t_X10_stretch_4_b hB hz hk) (l0, l1, l2, l3, μ) z hf hk
set_option maxHeartbeats 4000000 in
set_option maxRecDepth 100000 in
theorem t_X10_stretch_0 {X : BX} {D : va_G} {cy : Nat → ClassId} {b : Nat} {r : Option Value} {μ' : MS} (hB : BB X D cy b yX10_stretch cX10_stretch 6 (some .int) rmX10_stretch) {l0 : Nat} {l1 : Int32} {μ : MS} {z : (Int32 × MS)} (hf : f_X10_stretch l0 l1 μ = some z) (hk : (fun z : Int32 × MS => r = some (.int z.1) ∧ μ' = z.2) z) : WW X D cy b r μ' 6 0 0 0 [(0, .ref (b + l0)), (1, .int l1)] [] μ := by
  unfold f_X10_stretch at hf
  refine r_iconst hB (v := 0) (by decide +kernel : decode cX10_stretch 0 = .ok (.iconst 0, 1)) (by decide +kernel) ?_
  refine r_istore_n hB (by decide +kernel : decode cX10_stretch 1 = .ok (.istore_n 2, 1)) rfl (by decide) rfl ?_
  refine ww_lv (lv' := [(2, .int 0), (0, .ref (b + l0)), (1, .int l1)]) rfl ?_
  refine r_iconst hB (v := 0) (by decide +kernel : decode cX10_stretch 2 = .ok (.iconst 0, 1)) (by decide +kernel) ?_
  refine r_istore_n hB (by decide +kernel : decode cX10_stretch 3 = .ok (.istore_n 3, 1)) rfl (by decide) rfl ?_
  refine ww_lv (lv' := [(3, .int 0), (2, .int 0), (0, .ref (b + l0)), (1, .int l1)]) rfl ?_
  exact WW.sub [2, 3, 1, 0] rfl (t_X10_stretch_4 hB hf hk)
theorem m_X10_stretch (l : Launch) (D : va_G) (cy : Nat → ClassId) (b : Nat) {l0 : Nat} {l1 : Int32} {μ : MS} {z : Int32 × MS} (hf : f_X10_stretch l0 l1 μ = some z) : Met l yX10_stretch (.code yX10_stretch cX10_stretch 6 (some .int) :: GW) rmX10_stretch (Pw D cy b [.ref (b + l0), .int l1] μ) (Qw D cy b (some (.int z.1)) (z.2)) rmX10_stretch.cells rmX10_stretch.slots (fun q => b ≤ q) :=
  met_of (by decide) (Nat.le_of_ble_eq_true rfl) (fun X hB _ => (t_X10_stretch_0 hB hf ⟨rfl, rfl⟩))
-- PulseRemote.distort(III)I
set_option maxHeartbeats 4000000 in
set_option maxRecDepth 100000 in
theorem t_X11_distort_50 {X : BX} {D : va_G} {cy : Nat → ClassId} {b : Nat} {r : Option Value} {μ' : MS} (hB : BB X D cy b yX11_distort cX11_distort 4 (some .int) rmX11_distort) {s0 : Int32} {s1 : Nat} {μ : MS} {z : (Int32 × MS)} (hf : f_X11_distort_50 s0 s1 μ = some z) (hk : (fun z : Int32 × MS => r = some (.int z.1) ∧ μ' = z.2) z) : WW X D cy b r μ' 4 0 0 50 [] [.int s0, .ref (b + s1)] μ := by
  unfold f_X11_distort_50 at hf
  refine r_cVi hB [.int s0] [] cf10 (own := "PulseRemote") rfl cmX10_stretch imX10_stretch (Or.inl k_885) (by decide) rfl rfl rfl (Nat.le_of_ble_eq_true rfl) (by decide +kernel : decode cX11_distort 50 = .ok (.invokevirtual 280, 3)) (fun z hz => m_X10_stretch _ _ _ _ hz) rfl hf (fun z50 hf => ?_)
  obtain rfl := Option.some.inj hf
  obtain ⟨rfl, rfl⟩ := hk
  exact r_iret hB (by decide +kernel : decode cX11_distort 53 = .ok (.ireturn, 1))
set_option maxHeartbeats 4000000 in
set_option maxRecDepth 100000 in
theorem t_X11_distort_0 {X : BX} {D : va_G} {cy : Nat → ClassId} {b : Nat} {r : Option Value} {μ' : MS} (hB : BB X D cy b yX11_distort cX11_distort 4 (some .int) rmX11_distort) {l0 : Nat} {l1 : Int32} {l2 : Int32} {l3 : Int32} {μ : MS} {z : (Int32 × MS)} (hf : f_X11_distort l0 l1 l2 l3 μ = some z) (hk : (fun z : Int32 × MS => r = some (.int z.1) ∧ μ' = z.2) z) : WW X D cy b r μ' 4 0 0 0 [(0, .ref (b + l0)), (1, .int l1), (2, .int l2), (3, .int l3)] [] μ := by
  unfold f_X11_distort at hf
  refine r_iload_n hB 1 rfl (by decide +kernel : decode cX11_distort 0 = .ok (.iload_n 1, 1)) rfl ?_
  refine r_cSi hB [.int l1] [] (own := "PulseRemote") rfl cmX11_isSlot smX11_isSlot (Or.inl ⟨rfl, k_485⟩) (by decide) rfl rfl rfl (Nat.le_of_ble_eq_true rfl) (by decide +kernel : decode cX11_distort 1 = .ok (.invokestatic 156, 3)) (fun z hz => m_X11_isSlot _ _ _ _ hz) rfl hf (fun z1 hf => ?_)
  refine r_if_eq hB (tgt := 26) (by decide +kernel : decode cX11_distort 4 = .ok (.ifCond .eq 22, 3)) (by decide) hf (fun _ hf => ?_) (fun _ hf => ?_)
  · refine r_iconst hB (v := (-1)) (by decide +kernel : decode cX11_distort 26 = .ok (.iconst (-1), 1)) (by decide +kernel) ?_
    obtain rfl := Option.some.inj hf
    obtain ⟨rfl, rfl⟩ := hk
    exact r_iret hB (by decide +kernel : decode cX11_distort 27 = .ok (.ireturn, 1))
  · refine r_iload_n hB 2 rfl (by decide +kernel : decode cX11_distort 7 = .ok (.iload_n 2, 1)) rfl ?_
    refine r_iconst hB (v := 0) (by decide +kernel : decode cX11_distort 8 = .ok (.iconst 0, 1)) (by decide +kernel) ?_
    refine r_bipush hB (v := 30) (by decide +kernel : decode cX11_distort 9 = .ok (.bipush 30, 2)) (by decide +kernel) ?_
    refine r_cSi hB [.int l2, .int 0, .int 30] [] (own := "PulseRemote") rfl cmX11_inRange smX11_inRange (Or.inl ⟨rfl, k_440⟩) (by decide) rfl rfl rfl (Nat.le_of_ble_eq_true rfl) (by decide +kernel : decode cX11_distort 11 = .ok (.invokestatic 80, 3)) (fun z hz => m_X11_inRange _ _ _ _ hz) rfl hf (fun z11 hf => ?_)
    refine r_if_eq hB (tgt := 26) (by decide +kernel : decode cX11_distort 14 = .ok (.ifCond .eq 12, 3)) (by decide) hf (fun _ hf => ?_) (fun _ hf => ?_)
    · refine r_iconst hB (v := (-1)) (by decide +kernel : decode cX11_distort 26 = .ok (.iconst (-1), 1)) (by decide +kernel) ?_
      obtain rfl := Option.some.inj hf
      obtain ⟨rfl, rfl⟩ := hk
      exact r_iret hB (by decide +kernel : decode cX11_distort 27 = .ok (.ireturn, 1))
    · refine r_iload_n hB 3 rfl (by decide +kernel : decode cX11_distort 17 = .ok (.iload_n 3, 1)) rfl ?_
      refine r_iconst hB (v := 0) (by decide +kernel : decode cX11_distort 18 = .ok (.iconst 0, 1)) (by decide +kernel) ?_
      refine r_iconst hB (v := 1) (by decide +kernel : decode cX11_distort 19 = .ok (.iconst 1, 1)) (by decide +kernel) ?_
      refine r_cSi hB [.int l3, .int 0, .int 1] [] (own := "PulseRemote") rfl cmX11_inRange smX11_inRange (Or.inl ⟨rfl, k_440⟩) (by decide) rfl rfl rfl (Nat.le_of_ble_eq_true rfl) (by decide +kernel : decode cX11_distort 20 = .ok (.invokestatic 80, 3)) (fun z hz => m_X11_inRange _ _ _ _ hz) rfl hf (fun z20 hf => ?_)
      refine r_if_ne hB (tgt := 28) (by decide +kernel : decode cX11_distort 23 = .ok (.ifCond .ne 5, 3)) (by decide) hf (fun _ hf => ?_) (fun _ hf => ?_)
      · refine r_iconst hB (v := (-1)) (by decide +kernel : decode cX11_distort 26 = .ok (.iconst (-1), 1)) (by decide +kernel) ?_
        obtain rfl := Option.some.inj hf
        obtain ⟨rfl, rfl⟩ := hk
        exact r_iret hB (by decide +kernel : decode cX11_distort 27 = .ok (.ireturn, 1))
      · refine r_aload_n hB 0 rfl (by decide +kernel : decode cX11_distort 28 = .ok (.aload_n 0, 1)) rfl ?_
        refine r_cVv hB [] [] cf11 (own := "PulseRemote") rfl cmX11_saveState imX11_saveState (Or.inl k_443) (by decide) rfl rfl rfl (Nat.le_of_ble_eq_true rfl) (by decide +kernel : decode cX11_distort 29 = .ok (.invokevirtual 91, 3)) (fun z hz => m_X11_saveState _ _ _ _ hz) rfl hf (fun z29 hf => ?_)
        refine r_aload_n hB 0 rfl (by decide +kernel : decode cX11_distort 32 = .ok (.aload_n 0, 1)) rfl ?_
        refine r_gR hB cf11 0 (by decide) (own := "PulseRemote") rfl (Or.inl k_395) (by decide +kernel) (by decide +kernel : decode cX11_distort 33 = .ok (.getfield 12, 3)) hf (fun x33 hf => ?_)
        refine r_iload_n hB 1 rfl (by decide +kernel : decode cX11_distort 36 = .ok (.iload_n 1, 1)) rfl ?_
        refine r_cVr hB [.int l1] [] cf7 (own := "PulseRemote") rfl cmX7_trainAt imX7_trainAt (Or.inl k_488) (by decide) rfl rfl rfl (Nat.le_of_ble_eq_true rfl) (by decide +kernel : decode cX11_distort 37 = .ok (.invokevirtual 159, 3)) (fun z hz => m_X7_trainAt _ _ _ _ hz) rfl hf (fun z37 hf => ?_)
        refine r_iload_n hB 3 rfl (by decide +kernel : decode cX11_distort 40 = .ok (.iload_n 3, 1)) rfl ?_
        refine r_if_ne hB (tgt := 48) (by decide +kernel : decode cX11_distort 41 = .ok (.ifCond .ne 7, 3)) (by decide) hf (fun _ hf => ?_) (fun _ hf => ?_)
        · refine r_iload_n hB 2 rfl (by decide +kernel : decode cX11_distort 44 = .ok (.iload_n 2, 1)) rfl ?_
          refine r_goto hB (tgt := 50) (by decide +kernel : decode cX11_distort 45 = .ok (.goto 5, 3)) (by decide) ?_
          exact WW.sub [] rfl (t_X11_distort_50 hB hf hk)
        · refine r_iload_n hB 2 rfl (by decide +kernel : decode cX11_distort 48 = .ok (.iload_n 2, 1)) rfl ?_
          refine r_ineg hB (by decide +kernel : decode cX11_distort 49 = .ok (.ineg, 1)) ?_
          exact WW.sub [] rfl (t_X11_distort_50 hB hf hk)
theorem m_X11_distort (l : Launch) (D : va_G) (cy : Nat → ClassId) (b : Nat) {l0 : Nat} {l1 : Int32} {l2 : Int32} {l3 : Int32} {μ : MS} {z : Int32 × MS} (hf : f_X11_distort l0 l1 l2 l3 μ = some z) : Met l yX11_distort (.code yX11_distort cX11_distort 4 (some .int) :: GW) rmX11_distort (Pw D cy b [.ref (b + l0), .int l1, .int l2, .int l3] μ) (Qw D cy b (some (.int z.1)) (z.2)) rmX11_distort.cells rmX11_distort.slots (fun q => b ≤ q) :=
  met_of (by decide) (Nat.le_of_ble_eq_true rfl) (fun X hB _ => (t_X11_distort_0 hB hf ⟨rfl, rfl⟩))
-- PulseRemote.duration(II)I
set_option maxHeartbeats 4000000 in
set_option maxRecDepth 100000 in
theorem t_X11_duration_0 {X : BX} {D : va_G} {cy : Nat → ClassId} {b : Nat} {r : Option Value} {μ' : MS} (hB : BB X D cy b yX11_duration cX11_duration 4 (some .int) rmX11_duration) {l0 : Nat} {l1 : Int32} {l2 : Int32} {μ : MS} {z : (Int32 × MS)} (hf : f_X11_duration l0 l1 l2 μ = some z) (hk : (fun z : Int32 × MS => r = some (.int z.1) ∧ μ' = z.2) z) : WW X D cy b r μ' 4 0 0 0 [(0, .ref (b + l0)), (1, .int l1), (2, .int l2)] [] μ := by
  unfold f_X11_duration at hf
  refine r_iload_n hB 1 rfl (by decide +kernel : decode cX11_duration 0 = .ok (.iload_n 1, 1)) rfl ?_
  refine r_cSi hB [.int l1] [] (own := "PulseRemote") rfl cmX11_isSlot smX11_isSlot (Or.inl ⟨rfl, k_485⟩) (by decide) rfl rfl rfl (Nat.le_of_ble_eq_true rfl) (by decide +kernel : decode cX11_duration 1 = .ok (.invokestatic 156, 3)) (fun z hz => m_X11_isSlot _ _ _ _ hz) rfl hf (fun z1 hf => ?_)
  refine r_if_eq hB (tgt := 11) (by decide +kernel : decode cX11_duration 4 = .ok (.ifCond .eq 7, 3)) (by decide) hf (fun _ hf => ?_) (fun _ hf => ?_)
  · refine r_iconst hB (v := (-1)) (by decide +kernel : decode cX11_duration 11 = .ok (.iconst (-1), 1)) (by decide +kernel) ?_
    obtain rfl := Option.some.inj hf
    obtain ⟨rfl, rfl⟩ := hk
    exact r_iret hB (by decide +kernel : decode cX11_duration 12 = .ok (.ireturn, 1))
  · refine r_iload_n hB 2 rfl (by decide +kernel : decode cX11_duration 7 = .ok (.iload_n 2, 1)) rfl ?_
    refine r_if_ge hB (tgt := 13) (by decide +kernel : decode cX11_duration 8 = .ok (.ifCond .ge 5, 3)) (by decide) hf (fun _ hf => ?_) (fun _ hf => ?_)
    · refine r_aload_n hB 0 rfl (by decide +kernel : decode cX11_duration 13 = .ok (.aload_n 0, 1)) rfl ?_
      refine r_gR hB cf11 0 (by decide) (own := "PulseRemote") rfl (Or.inl k_395) (by decide +kernel) (by decide +kernel : decode cX11_duration 14 = .ok (.getfield 12, 3)) hf (fun x14 hf => ?_)
      refine r_iload_n hB 1 rfl (by decide +kernel : decode cX11_duration 17 = .ok (.iload_n 1, 1)) rfl ?_
      refine r_cVr hB [.int l1] [] cf7 (own := "PulseRemote") rfl cmX7_trainAt imX7_trainAt (Or.inl k_488) (by decide) rfl rfl rfl (Nat.le_of_ble_eq_true rfl) (by decide +kernel : decode cX11_duration 18 = .ok (.invokevirtual 159, 3)) (fun z hz => m_X7_trainAt _ _ _ _ hz) rfl hf (fun z18 hf => ?_)
      refine r_astore_n hB (by decide +kernel : decode cX11_duration 21 = .ok (.astore_n 3, 1)) rfl (by decide) rfl ?_
      refine ww_lv (lv' := [(3, .ref (b + z18.1)), (0, .ref (b + l0)), (1, .int l1), (2, .int l2)]) rfl ?_
      refine r_iload_n hB 3 rfl (by decide +kernel : decode cX11_duration 22 = .ok (.iload_n 2, 1)) rfl ?_
      refine r_aload_n hB 0 rfl (by decide +kernel : decode cX11_duration 23 = .ok (.aload_n 3, 1)) rfl ?_
      refine r_gI hB cf10 1 (by decide) (own := "PulseRemote") rfl (Or.inr ⟨_, k_142⟩) (by decide +kernel) (by decide +kernel : decode cX11_duration 24 = .ok (.getfield 244, 3)) hf (fun x24 hf => ?_)
      refine r_icmp_ge hB (tgt := 38) (by decide +kernel : decode cX11_duration 27 = .ok (.if_icmp .ge 11, 3)) (by decide) hf (fun _ hf => ?_) (fun _ hf => ?_)
      · refine r_bipush hB (v := (-9)) (by decide +kernel : decode cX11_duration 38 = .ok (.bipush (-9), 2)) (by decide +kernel) ?_
        obtain rfl := Option.some.inj hf
        obtain ⟨rfl, rfl⟩ := hk
        exact r_iret hB (by decide +kernel : decode cX11_duration 40 = .ok (.ireturn, 1))
      · refine r_aload_n hB 0 rfl (by decide +kernel : decode cX11_duration 30 = .ok (.aload_n 3, 1)) rfl ?_
        refine r_iload_n hB 3 rfl (by decide +kernel : decode cX11_duration 31 = .ok (.iload_n 2, 1)) rfl ?_
        refine r_cVi hB [.int l2] [] cf10 (own := "PulseRemote") rfl cmX10_at imX10_at (Or.inl k_617) (by decide) rfl rfl rfl (Nat.le_of_ble_eq_true rfl) (by decide +kernel : decode cX11_duration 32 = .ok (.invokevirtual 283, 3)) (fun z hz => m_X10_at _ _ _ _ hz) rfl hf (fun z32 hf => ?_)
        refine r_goto hB (tgt := 40) (by decide +kernel : decode cX11_duration 35 = .ok (.goto 5, 3)) (by decide) ?_
        obtain rfl := Option.some.inj hf
        obtain ⟨rfl, rfl⟩ := hk
        exact r_iret hB (by decide +kernel : decode cX11_duration 40 = .ok (.ireturn, 1))
    · refine r_iconst hB (v := (-1)) (by decide +kernel : decode cX11_duration 11 = .ok (.iconst (-1), 1)) (by decide +kernel) ?_
      obtain rfl := Option.some.inj hf
      obtain ⟨rfl, rfl⟩ := hk
      exact r_iret hB (by decide +kernel : decode cX11_duration 12 = .ok (.ireturn, 1))
theorem m_X11_duration (l : Launch) (D : va_G) (cy : Nat → ClassId) (b : Nat) {l0 : Nat} {l1 : Int32} {l2 : Int32} {μ : MS} {z : Int32 × MS} (hf : f_X11_duration l0 l1 l2 μ = some z) : Met l yX11_duration (.code yX11_duration cX11_duration 4 (some .int) :: GW) rmX11_duration (Pw D cy b [.ref (b + l0), .int l1, .int l2] μ) (Qw D cy b (some (.int z.1)) (z.2)) rmX11_duration.cells rmX11_duration.slots (fun q => b ≤ q) :=
  met_of (by decide) (Nat.le_of_ble_eq_true rfl) (fun X hB _ => (t_X11_duration_0 hB hf ⟨rfl, rfl⟩))
-- PulseRemote.length(I)I
set_option maxHeartbeats 4000000 in
set_option maxRecDepth 100000 in
theorem t_X11_length_0 {X : BX} {D : va_G} {cy : Nat → ClassId} {b : Nat} {r : Option Value} {μ' : MS} (hB : BB X D cy b yX11_length cX11_length 2 (some .int) rmX11_length) {l0 : Nat} {l1 : Int32} {μ : MS} {z : (Int32 × MS)} (hf : f_X11_length l0 l1 μ = some z) (hk : (fun z : Int32 × MS => r = some (.int z.1) ∧ μ' = z.2) z) : WW X D cy b r μ' 2 0 0 0 [(0, .ref (b + l0)), (1, .int l1)] [] μ := by
  unfold f_X11_length at hf
  refine r_iload_n hB 1 rfl (by decide +kernel : decode cX11_length 0 = .ok (.iload_n 1, 1)) rfl ?_
  refine r_cSi hB [.int l1] [] (own := "PulseRemote") rfl cmX11_isSlot smX11_isSlot (Or.inl ⟨rfl, k_485⟩) (by decide) rfl rfl rfl (Nat.le_of_ble_eq_true rfl) (by decide +kernel : decode cX11_length 1 = .ok (.invokestatic 156, 3)) (fun z hz => m_X11_isSlot _ _ _ _ hz) rfl hf (fun z1 hf => ?_)
  refine r_if_eq hB (tgt := 21) (by decide +kernel : decode cX11_length 4 = .ok (.ifCond .eq 17, 3)) (by decide) hf (fun _ hf => ?_) (fun _ hf => ?_)
  · refine r_iconst hB (v := (-1)) (by decide +kernel : decode cX11_length 21 = .ok (.iconst (-1), 1)) (by decide +kernel) ?_
    obtain rfl := Option.some.inj hf
    obtain ⟨rfl, rfl⟩ := hk
    exact r_iret hB (by decide +kernel : decode cX11_length 22 = .ok (.ireturn, 1))
  · refine r_aload_n hB 0 rfl (by decide +kernel : decode cX11_length 7 = .ok (.aload_n 0, 1)) rfl ?_
    refine r_gR hB cf11 0 (by decide) (own := "PulseRemote") rfl (Or.inl k_395) (by decide +kernel) (by decide +kernel : decode cX11_length 8 = .ok (.getfield 12, 3)) hf (fun x8 hf => ?_)
    refine r_iload_n hB 1 rfl (by decide +kernel : decode cX11_length 11 = .ok (.iload_n 1, 1)) rfl ?_
    refine r_cVr hB [.int l1] [] cf7 (own := "PulseRemote") rfl cmX7_trainAt imX7_trainAt (Or.inl k_488) (by decide) rfl rfl rfl (Nat.le_of_ble_eq_true rfl) (by decide +kernel : decode cX11_length 12 = .ok (.invokevirtual 159, 3)) (fun z hz => m_X7_trainAt _ _ _ _ hz) rfl hf (fun z12 hf => ?_)
    refine r_gI hB cf10 1 (by decide) (own := "PulseRemote") rfl (Or.inr ⟨_, k_142⟩) (by decide +kernel) (by decide +kernel : decode cX11_length 15 = .ok (.getfield 244, 3)) hf (fun x15 hf => ?_)
    refine r_goto hB (tgt := 22) (by decide +kernel : decode cX11_length 18 = .ok (.goto 4, 3)) (by decide) ?_
    obtain rfl := Option.some.inj hf
    obtain ⟨rfl, rfl⟩ := hk
    exact r_iret hB (by decide +kernel : decode cX11_length 22 = .ok (.ireturn, 1))
theorem m_X11_length (l : Launch) (D : va_G) (cy : Nat → ClassId) (b : Nat) {l0 : Nat} {l1 : Int32} {μ : MS} {z : Int32 × MS} (hf : f_X11_length l0 l1 μ = some z) : Met l yX11_length (.code yX11_length cX11_length 2 (some .int) :: GW) rmX11_length (Pw D cy b [.ref (b + l0), .int l1] μ) (Qw D cy b (some (.int z.1)) (z.2)) rmX11_length.cells rmX11_length.slots (fun q => b ≤ q) :=
  met_of (by decide) (Nat.le_of_ble_eq_true rfl) (fun X hB _ => (t_X11_length_0 hB hf ⟨rfl, rfl⟩))
-- PulseRemote.frameCount(I)I
set_option maxHeartbeats 4000000 in
set_option maxRecDepth 100000 in
theorem t_X11_frameCount_0 {X : BX} {D : va_G} {cy : Nat → ClassId} {b : Nat} {r : Option Value} {μ' : MS} (hB : BB X D cy b yX11_frameCount cX11_frameCount 2 (some .int) rmX11_frameCount) {l0 : Nat} {l1 : Int32} {μ : MS} {z : (Int32 × MS)} (hf : f_X11_frameCount l0 l1 μ = some z) (hk : (fun z : Int32 × MS => r = some (.int z.1) ∧ μ' = z.2) z) : WW X D cy b r μ' 2 0 0 0 [(0, .ref (b + l0)), (1, .int l1)] [] μ := by
  unfold f_X11_frameCount at hf
  refine r_iload_n hB 1 rfl (by decide +kernel : decode cX11_frameCount 0 = .ok (.iload_n 1, 1)) rfl ?_
  refine r_cSi hB [.int l1] [] (own := "PulseRemote") rfl cmX11_isSlot smX11_isSlot (Or.inl ⟨rfl, k_485⟩) (by decide) rfl rfl rfl (Nat.le_of_ble_eq_true rfl) (by decide +kernel : decode cX11_frameCount 1 = .ok (.invokestatic 156, 3)) (fun z hz => m_X11_isSlot _ _ _ _ hz) rfl hf (fun z1 hf => ?_)
  refine r_if_ne hB (tgt := 9) (by decide +kernel : decode cX11_frameCount 4 = .ok (.ifCond .ne 5, 3)) (by decide) hf (fun _ hf => ?_) (fun _ hf => ?_)
  · refine r_iconst hB (v := (-1)) (by decide +kernel : decode cX11_frameCount 7 = .ok (.iconst (-1), 1)) (by decide +kernel) ?_
    obtain rfl := Option.some.inj hf
    obtain ⟨rfl, rfl⟩ := hk
    exact r_iret hB (by decide +kernel : decode cX11_frameCount 8 = .ok (.ireturn, 1))
  · refine r_aload_n hB 0 rfl (by decide +kernel : decode cX11_frameCount 9 = .ok (.aload_n 0, 1)) rfl ?_
    refine r_gR hB cf11 7 (by decide) (own := "PulseRemote") rfl (Or.inl k_402) (by decide +kernel) (by decide +kernel : decode cX11_frameCount 10 = .ok (.getfield 48, 3)) hf (fun x10 hf => ?_)
    refine r_aload_n hB 0 rfl (by decide +kernel : decode cX11_frameCount 13 = .ok (.aload_n 0, 1)) rfl ?_
    refine r_gR hB cf11 0 (by decide) (own := "PulseRemote") rfl (Or.inl k_395) (by decide +kernel) (by decide +kernel : decode cX11_frameCount 14 = .ok (.getfield 12, 3)) hf (fun x14 hf => ?_)
    refine r_iload_n hB 1 rfl (by decide +kernel : decode cX11_frameCount 17 = .ok (.iload_n 1, 1)) rfl ?_
    refine r_cVr hB [.int l1] [.ref (b + x10)] cf7 (own := "PulseRemote") rfl cmX7_trainAt imX7_trainAt (Or.inl k_488) (by decide) rfl rfl rfl (Nat.le_of_ble_eq_true rfl) (by decide +kernel : decode cX11_frameCount 18 = .ok (.invokevirtual 159, 3)) (fun z hz => m_X7_trainAt _ _ _ _ hz) rfl hf (fun z18 hf => ?_)
    refine r_aload_n hB 0 rfl (by decide +kernel : decode cX11_frameCount 21 = .ok (.aload_n 0, 1)) rfl ?_
    refine r_gR hB cf11 0 (by decide) (own := "PulseRemote") rfl (Or.inl k_395) (by decide +kernel) (by decide +kernel : decode cX11_frameCount 22 = .ok (.getfield 12, 3)) hf (fun x22 hf => ?_)
    refine r_gI hB cf7 2 (by decide) (own := "PulseRemote") rfl (Or.inr ⟨_, k_154⟩) (by decide +kernel) (by decide +kernel : decode cX11_frameCount 25 = .ok (.getfield 163, 3)) hf (fun x25 hf => ?_)
    refine r_cVv hB [.ref (b + z18.1), .int x25] [] cf3 (own := "PulseRemote") rfl cmX3_split imX3_split (Or.inl k_493) (by decide) rfl rfl rfl (Nat.le_of_ble_eq_true rfl) (by decide +kernel : decode cX11_frameCount 28 = .ok (.invokevirtual 166, 3)) (fun z hz => m_X3_split _ _ _ _ hz) rfl hf (fun z28 hf => ?_)
    refine r_aload_n hB 0 rfl (by decide +kernel : decode cX11_frameCount 31 = .ok (.aload_n 0, 1)) rfl ?_
    refine r_gR hB cf11 7 (by decide) (own := "PulseRemote") rfl (Or.inl k_402) (by decide +kernel) (by decide +kernel : decode cX11_frameCount 32 = .ok (.getfield 48, 3)) hf (fun x32 hf => ?_)
    refine r_gI hB cf3 2 (by decide) (own := "PulseRemote") rfl (Or.inr ⟨_, k_210⟩) (by decide +kernel) (by decide +kernel : decode cX11_frameCount 35 = .ok (.getfield 286, 3)) hf (fun x35 hf => ?_)
    obtain rfl := Option.some.inj hf
    obtain ⟨rfl, rfl⟩ := hk
    exact r_iret hB (by decide +kernel : decode cX11_frameCount 38 = .ok (.ireturn, 1))
theorem m_X11_frameCount (l : Launch) (D : va_G) (cy : Nat → ClassId) (b : Nat) {l0 : Nat} {l1 : Int32} {μ : MS} {z : Int32 × MS} (hf : f_X11_frameCount l0 l1 μ = some z) : Met l yX11_frameCount (.code yX11_frameCount cX11_frameCount 2 (some .int) :: GW) rmX11_frameCount (Pw D cy b [.ref (b + l0), .int l1] μ) (Qw D cy b (some (.int z.1)) (z.2)) rmX11_frameCount.cells rmX11_frameCount.slots (fun q => b ≤ q) :=
  met_of (by decide) (Nat.le_of_ble_eq_true rfl) (fun X hB _ => (t_X11_frameCount_0 hB hf ⟨rfl, rfl⟩))
-- PulseRemote$Decoder.take(LPulseRemote$FrameList;I)Z
set_option maxHeartbeats 4000000 in
set_option maxRecDepth 100000 in
theorem t_X2_take_48 {X : BX} {D : va_G} {cy : Nat → ClassId} {b : Nat} {r : Option Value} {μ' : MS} (hB : BB X D cy b yX2_take cX2_take 4 (some .boolean) rmX2_take)  {μ : MS} {z : (Int32 × MS)} (hf : f_X2_take_48  μ = some z) (hk : (fun z : Int32 × MS => r = some (.int z.1) ∧ μ' = z.2) z) : WW X D cy b r μ' 4 0 0 48 [] [] μ := by
  unfold f_X2_take_48 at hf
  refine r_iconst hB (v := 1) (by decide +kernel : decode cX2_take 48 = .ok (.iconst 1, 1)) (by decide +kernel) ?_
  obtain rfl := Option.some.inj hf
  obtain ⟨rfl, rfl⟩ := hk
  exact r_zret hB (Or.inr rfl) (by decide +kernel : decode cX2_take 49 = .ok (.ireturn, 1))
set_option maxHeartbeats 4000000 in
set_option maxRecDepth 100000 in
theorem t_X2_take_22_b {X : BX} {D : va_G} {cy : Nat → ClassId} {b : Nat} {r : Option Value} {μ' : MS} (hB : BB X D cy b yX2_take cX2_take 4 (some .boolean) rmX2_take) {l0 : Nat} {l1 : Nat} {l2 : Int32} {l3 : Int32} {μ : MS} {z : ((Nat × Nat × Int32 × Int32 × MS) ⊕ (Int32 × MS))} (hf : f_X2_take_22_b l0 l1 l2 l3 μ = some z) (hk : (Sum.elim (fun s : Nat × Nat × Int32 × Int32 × MS => WW X D cy b r μ' 4 0 0 22 [(0, .ref (b + s.1)), (1, .ref (b + s.2.1)), (2, .int s.2.2.1), (3, .int s.2.2.2.1)] [] s.2.2.2.2) (fun z : Int32 × MS => r = some (.int z.1) ∧ μ' = z.2)) z) : WW X D cy b r μ' 4 0 0 22 [(0, .ref (b + l0)), (1, .ref (b + l1)), (2, .int l2), (3, .int l3)] [] μ := by
  unfold f_X2_take_22_b at hf
  refine r_iload_n hB 3 rfl (by decide +kernel : decode cX2_take 22 = .ok (.iload_n 3, 1)) rfl ?_
  refine r_aload_n hB 0 rfl (by decide +kernel : decode cX2_take 23 = .ok (.aload_n 0, 1)) rfl ?_
  refine r_gI hB cf2 3 (by decide) (own := "PulseRemote$Decoder") rfl (Or.inl k_234) (by decide +kernel) (by decide +kernel : decode cX2_take 24 = .ok (.getfield 64, 3)) hf (fun x24 hf => ?_)
  refine r_icmp_ge hB (tgt := 48) (by decide +kernel : decode cX2_take 27 = .ok (.if_icmp .ge 21, 3)) (by decide) hf (fun _ hf => ?_) (fun _ hf => ?_)
  · obtain ⟨_, hx0, rfl⟩ := xr_inv hf
    exact WW.sub [] rfl (t_X2_take_48 hB hx0 hk)
  · refine r_aload_n hB 0 rfl (by decide +kernel : decode cX2_take 30 = .ok (.aload_n 0, 1)) rfl ?_
    refine r_gR hB cf2 2 (by decide) (own := "PulseRemote$Decoder") rfl (Or.inl k_233) (by decide +kernel) (by decide +kernel : decode cX2_take 31 = .ok (.getfield 18, 3)) hf (fun x31 hf => ?_)
    refine r_iload_n hB 3 rfl (by decide +kernel : decode cX2_take 34 = .ok (.iload_n 3, 1)) rfl ?_
    refine r_aload_n hB 1 rfl (by decide +kernel : decode cX2_take 35 = .ok (.aload_n 1, 1)) rfl ?_
    refine r_iload_n hB 2 rfl (by decide +kernel : decode cX2_take 36 = .ok (.iload_n 2, 1)) rfl ?_
    refine r_iload_n hB 3 rfl (by decide +kernel : decode cX2_take 37 = .ok (.iload_n 3, 1)) rfl ?_
    refine r_cVi hB [.int l2, .int l3] [.int l3, .ref (b + x31)] cf3 (own := "PulseRemote$Decoder") rfl cmX3_durationAt imX3_durationAt (Or.inl k_531) (by decide) rfl rfl rfl (Nat.le_of_ble_eq_true rfl) (by decide +kernel : decode cX2_take 38 = .ok (.invokevirtual 67, 3)) (fun z hz => m_X3_durationAt _ _ _ _ hz) rfl hf (fun z38 hf => ?_)
    refine r_iast hB (by decide +kernel : decode cX2_take 41 = .ok (.iastore, 1)) hf (fun m41 hf => ?_)
    refine r_iincB hB 3 rfl (by decide +kernel : decode cX2_take 42 = .ok (.iinc 3 1, 3)) (w := 1) (by decide +kernel) (by decide) hf (fun v42 hf => ?_)
    refine ww_lv (lv' := [(3, .int v42), (0, .ref (b + l0)), (1, .ref (b + l1)), (2, .int l2)]) rfl ?_
    refine r_goto hB (tgt := 22) (by decide +kernel : decode cX2_take 45 = .ok (.goto (-23), 3)) (by decide) ?_
    obtain rfl := Option.some.inj hf
    exact WW.sub [1, 2, 3, 0] rfl hk
set_option maxHeartbeats 4000000 in
set_option maxRecDepth 100000 in
theorem t_X2_take_22 {X : BX} {D : va_G} {cy : Nat → ClassId} {b : Nat} {r : Option Value} {μ' : MS} (hB : BB X D cy b yX2_take cX2_take 4 (some .boolean) rmX2_take) {l0 : Nat} {l1 : Nat} {l2 : Int32} {l3 : Int32} {μ : MS} {z : (Int32 × MS)} (hf : f_X2_take_22 l0 l1 l2 l3 μ = some z) (hk : (fun z : Int32 × MS => r = some (.int z.1) ∧ μ' = z.2) z) : WW X D cy b r μ' 4 0 0 22 [(0, .ref (b + l0)), (1, .ref (b + l1)), (2, .int l2), (3, .int l3)] [] μ :=
  lp_ind (P := fun s : Nat × Nat × Int32 × Int32 × MS => WW X D cy b r μ' 4 0 0 22 [(0, .ref (b + s.1)), (1, .ref (b + s.2.1)), (2, .int s.2.2.1), (3, .int s.2.2.2.1)] [] s.2.2.2.2) (Q := (fun z : Int32 × MS => r = some (.int z.1) ∧ μ' = z.2)) (fun s z hz hk => t_X2_take_22_b hB hz hk) (l0, l1, l2, l3, μ) z hf hk
set_option maxHeartbeats 4000000 in
set_option maxRecDepth 100000 in
theorem t_X2_take_0 {X : BX} {D : va_G} {cy : Nat → ClassId} {b : Nat} {r : Option Value} {μ' : MS} (hB : BB X D cy b yX2_take cX2_take 4 (some .boolean) rmX2_take) {l0 : Nat} {l1 : Nat} {l2 : Int32} {μ : MS} {z : (Int32 × MS)} (hf : f_X2_take l0 l1 l2 μ = some z) (hk : (fun z : Int32 × MS => r = some (.int z.1) ∧ μ' = z.2) z) : WW X D cy b r μ' 4 0 0 0 [(0, .ref (b + l0)), (1, .ref (b + l1)), (2, .int l2)] [] μ := by
  unfold f_X2_take at hf
  refine r_aload_n hB 0 rfl (by decide +kernel : decode cX2_take 0 = .ok (.aload_n 0, 1)) rfl ?_
  refine r_aload_n hB 1 rfl (by decide +kernel : decode cX2_take 1 = .ok (.aload_n 1, 1)) rfl ?_
  refine r_iload_n hB 2 rfl (by decide +kernel : decode cX2_take 2 = .ok (.iload_n 2, 1)) rfl ?_
  refine r_cVi hB [.int l2] [.ref (b + l0)] cf3 (own := "PulseRemote$Decoder") rfl cmX3_sizeOf imX3_sizeOf (Or.inl k_530) (by decide) rfl rfl rfl (Nat.le_of_ble_eq_true rfl) (by decide +kernel : decode cX2_take 3 = .ok (.invokevirtual 58, 3)) (fun z hz => m_X3_sizeOf _ _ _ _ hz) rfl hf (fun z3 hf => ?_)
  refine r_pI hB cf2 3 (by decide) (own := "PulseRemote$Decoder") rfl (Or.inl k_234) (Or.inl rfl) rfl (by decide +kernel : decode cX2_take 6 = .ok (.putfield 64, 3)) hf (fun m6 hf => ?_)
  refine r_aload_n hB 0 rfl (by decide +kernel : decode cX2_take 9 = .ok (.aload_n 0, 1)) rfl ?_
  refine r_gI hB cf2 3 (by decide) (own := "PulseRemote$Decoder") rfl (Or.inl k_234) (by decide +kernel) (by decide +kernel : decode cX2_take 10 = .ok (.getfield 64, 3)) hf (fun x10 hf => ?_)
  refine r_bipush hB (v := 35) (by decide +kernel : decode cX2_take 13 = .ok (.bipush 35, 2)) (by decide +kernel) ?_
  refine r_icmp_le hB (tgt := 20) (by decide +kernel : decode cX2_take 15 = .ok (.if_icmp .le 5, 3)) (by decide) hf (fun _ hf => ?_) (fun _ hf => ?_)
  · refine r_iconst hB (v := 0) (by decide +kernel : decode cX2_take 20 = .ok (.iconst 0, 1)) (by decide +kernel) ?_
    refine r_istore_n hB (by decide +kernel : decode cX2_take 21 = .ok (.istore_n 3, 1)) rfl (by decide) rfl ?_
    refine ww_lv (lv' := [(3, .int 0), (0, .ref (b + l0)), (1, .ref (b + l1)), (2, .int l2)]) rfl ?_
    exact WW.sub [1, 2, 3, 0] rfl (t_X2_take_22 hB hf hk)
  · refine r_iconst hB (v := 0) (by decide +kernel : decode cX2_take 18 = .ok (.iconst 0, 1)) (by decide +kernel) ?_
    obtain rfl := Option.some.inj hf
    obtain ⟨rfl, rfl⟩ := hk
    exact r_zret hB (Or.inl rfl) (by decide +kernel : decode cX2_take 19 = .ok (.ireturn, 1))
theorem m_X2_take (l : Launch) (D : va_G) (cy : Nat → ClassId) (b : Nat) {l0 : Nat} {l1 : Nat} {l2 : Int32} {μ : MS} {z : Int32 × MS} (hf : f_X2_take l0 l1 l2 μ = some z) : Met l yX2_take (.code yX2_take cX2_take 4 (some .boolean) :: GW) rmX2_take (Pw D cy b [.ref (b + l0), .ref (b + l1), .int l2] μ) (Qw D cy b (some (.int z.1)) (z.2)) rmX2_take.cells rmX2_take.slots (fun q => b ≤ q) :=
  met_of (by decide) (Nat.le_of_ble_eq_true rfl) (fun X hB _ => (t_X2_take_0 hB hf ⟨rfl, rfl⟩))
-- PulseRemote.matches(III)Z
set_option maxHeartbeats 4000000 in
set_option maxRecDepth 100000 in
theorem t_X11_matches_14 {X : BX} {D : va_G} {cy : Nat → ClassId} {b : Nat} {r : Option Value} {μ' : MS} (hB : BB X D cy b yX11_matches cX11_matches 4 (some .boolean) rmX11_matches) {l1 : Int32} {l2 : Int32} {s0 : Int32} {μ : MS} {z : (Int32 × MS)} (hf : f_X11_matches_14 l1 l2 s0 μ = some z) (hk : (fun z : Int32 × MS => r = some (.int z.1) ∧ μ' = z.2) z) : WW X D cy b r μ' 4 0 0 14 [(1, .int l1), (2, .int l2)] [.int s0] μ := by
  unfold f_X11_matches_14 at hf
  refine r_istore_n hB (by decide +kernel : decode cX11_matches 14 = .ok (.istore_n 3, 1)) rfl (by decide) rfl ?_
  refine ww_lv (lv' := [(3, .int s0), (1, .int l1), (2, .int l2)]) rfl ?_
  refine r_bipush hB (v := 100) (by decide +kernel : decode cX11_matches 15 = .ok (.bipush 100, 2)) (by decide +kernel) ?_
  refine r_iload_n hB 0 rfl (by decide +kernel : decode cX11_matches 17 = .ok (.iload_n 3, 1)) rfl ?_
  refine r_imul hB (by decide +kernel : decode cX11_matches 18 = .ok (.imul, 1)) ?_
  refine r_iload_n hB 1 rfl (by decide +kernel : decode cX11_matches 19 = .ok (.iload_n 1, 1)) rfl ?_
  refine r_iload_n hB 2 rfl (by decide +kernel : decode cX11_matches 20 = .ok (.iload_n 2, 1)) rfl ?_
  refine r_imul hB (by decide +kernel : decode cX11_matches 21 = .ok (.imul, 1)) ?_
  refine r_icmp_gt hB (tgt := 29) (by decide +kernel : decode cX11_matches 22 = .ok (.if_icmp .gt 7, 3)) (by decide) hf (fun _ hf => ?_) (fun _ hf => ?_)
  · refine r_iconst hB (v := 0) (by decide +kernel : decode cX11_matches 29 = .ok (.iconst 0, 1)) (by decide +kernel) ?_
    obtain rfl := Option.some.inj hf
    obtain ⟨rfl, rfl⟩ := hk
    exact r_zret hB (Or.inl rfl) (by decide +kernel : decode cX11_matches 30 = .ok (.ireturn, 1))
  · refine r_iconst hB (v := 1) (by decide +kernel : decode cX11_matches 25 = .ok (.iconst 1, 1)) (by decide +kernel) ?_
    refine r_goto hB (tgt := 30) (by decide +kernel : decode cX11_matches 26 = .ok (.goto 4, 3)) (by decide) ?_
    obtain rfl := Option.some.inj hf
    obtain ⟨rfl, rfl⟩ := hk
    exact r_zret hB (Or.inr rfl) (by decide +kernel : decode cX11_matches 30 = .ok (.ireturn, 1))
set_option maxHeartbeats 4000000 in
set_option maxRecDepth 100000 in
theorem t_X11_matches_0 {X : BX} {D : va_G} {cy : Nat → ClassId} {b : Nat} {r : Option Value} {μ' : MS} (hB : BB X D cy b yX11_matches cX11_matches 4 (some .boolean) rmX11_matches) {l0 : Int32} {l1 : Int32} {l2 : Int32} {μ : MS} {z : (Int32 × MS)} (hf : f_X11_matches l0 l1 l2 μ = some z) (hk : (fun z : Int32 × MS => r = some (.int z.1) ∧ μ' = z.2) z) : WW X D cy b r μ' 4 0 0 0 [(0, .int l0), (1, .int l1), (2, .int l2)] [] μ := by
  unfold f_X11_matches at hf
  refine r_iload_n hB 0 rfl (by decide +kernel : decode cX11_matches 0 = .ok (.iload_n 0, 1)) rfl ?_
  refine r_iload_n hB 1 rfl (by decide +kernel : decode cX11_matches 1 = .ok (.iload_n 1, 1)) rfl ?_
  refine r_icmp_le hB (tgt := 11) (by decide +kernel : decode cX11_matches 2 = .ok (.if_icmp .le 9, 3)) (by decide) hf (fun _ hf => ?_) (fun _ hf => ?_)
  · refine r_iload_n hB 1 rfl (by decide +kernel : decode cX11_matches 11 = .ok (.iload_n 1, 1)) rfl ?_
    refine r_iload_n hB 0 rfl (by decide +kernel : decode cX11_matches 12 = .ok (.iload_n 0, 1)) rfl ?_
    refine r_isub hB (by decide +kernel : decode cX11_matches 13 = .ok (.isub, 1)) ?_
    exact WW.sub [1, 2] rfl (t_X11_matches_14 hB hf hk)
  · refine r_iload_n hB 0 rfl (by decide +kernel : decode cX11_matches 5 = .ok (.iload_n 0, 1)) rfl ?_
    refine r_iload_n hB 1 rfl (by decide +kernel : decode cX11_matches 6 = .ok (.iload_n 1, 1)) rfl ?_
    refine r_isub hB (by decide +kernel : decode cX11_matches 7 = .ok (.isub, 1)) ?_
    refine r_goto hB (tgt := 14) (by decide +kernel : decode cX11_matches 8 = .ok (.goto 6, 3)) (by decide) ?_
    exact WW.sub [1, 2] rfl (t_X11_matches_14 hB hf hk)
theorem m_X11_matches (l : Launch) (D : va_G) (cy : Nat → ClassId) (b : Nat) {l0 : Int32} {l1 : Int32} {l2 : Int32} {μ : MS} {z : Int32 × MS} (hf : f_X11_matches l0 l1 l2 μ = some z) : Met l yX11_matches (.code yX11_matches cX11_matches 4 (some .boolean) :: GW) rmX11_matches (Pw D cy b [.int l0, .int l1, .int l2] μ) (Qw D cy b (some (.int z.1)) (z.2)) rmX11_matches.cells rmX11_matches.slots (fun q => b ≤ q) :=
  met_of (by decide) (Nat.le_of_ble_eq_true rfl) (fun X hB _ => (t_X11_matches_0 hB hf ⟨rfl, rfl⟩))
-- PulseRemote$Decoder.fits(II)Z
set_option maxHeartbeats 4000000 in
set_option maxRecDepth 100000 in
theorem t_X2_fits_0 {X : BX} {D : va_G} {cy : Nat → ClassId} {b : Nat} {r : Option Value} {μ' : MS} (hB : BB X D cy b yX2_fits cX2_fits 3 (some .boolean) rmX2_fits) {l0 : Nat} {l1 : Int32} {l2 : Int32} {μ : MS} {z : (Int32 × MS)} (hf : f_X2_fits l0 l1 l2 μ = some z) (hk : (fun z : Int32 × MS => r = some (.int z.1) ∧ μ' = z.2) z) : WW X D cy b r μ' 3 0 0 0 [(0, .ref (b + l0)), (1, .int l1), (2, .int l2)] [] μ := by
  unfold f_X2_fits at hf
  refine r_iload_n hB 1 rfl (by decide +kernel : decode cX2_fits 0 = .ok (.iload_n 1, 1)) rfl ?_
  refine r_if_lt hB (tgt := 39) (by decide +kernel : decode cX2_fits 1 = .ok (.ifCond .lt 38, 3)) (by decide) hf (fun _ hf => ?_) (fun _ hf => ?_)
  · refine r_iconst hB (v := 0) (by decide +kernel : decode cX2_fits 39 = .ok (.iconst 0, 1)) (by decide +kernel) ?_
    obtain rfl := Option.some.inj hf
    obtain ⟨rfl, rfl⟩ := hk
    exact r_zret hB (Or.inl rfl) (by decide +kernel : decode cX2_fits 40 = .ok (.ireturn, 1))
  · refine r_iload_n hB 1 rfl (by decide +kernel : decode cX2_fits 4 = .ok (.iload_n 1, 1)) rfl ?_
    refine r_aload_n hB 0 rfl (by decide +kernel : decode cX2_fits 5 = .ok (.aload_n 0, 1)) rfl ?_
    refine r_gI hB cf2 3 (by decide) (own := "PulseRemote$Decoder") rfl (Or.inl k_234) (by decide +kernel) (by decide +kernel : decode cX2_fits 6 = .ok (.getfield 64, 3)) hf (fun x6 hf => ?_)
    refine r_icmp_ge hB (tgt := 39) (by decide +kernel : decode cX2_fits 9 = .ok (.if_icmp .ge 30, 3)) (by decide) hf (fun _ hf => ?_) (fun _ hf => ?_)
    · refine r_iconst hB (v := 0) (by decide +kernel : decode cX2_fits 39 = .ok (.iconst 0, 1)) (by decide +kernel) ?_
      obtain rfl := Option.some.inj hf
      obtain ⟨rfl, rfl⟩ := hk
      exact r_zret hB (Or.inl rfl) (by decide +kernel : decode cX2_fits 40 = .ok (.ireturn, 1))
    · refine r_iload_n hB 1 rfl (by decide +kernel : decode cX2_fits 12 = .ok (.iload_n 1, 1)) rfl ?_
      refine r_bipush hB (v := 35) (by decide +kernel : decode cX2_fits 13 = .ok (.bipush 35, 2)) (by decide +kernel) ?_
      refine r_icmp_ge hB (tgt := 39) (by decide +kernel : decode cX2_fits 15 = .ok (.if_icmp .ge 24, 3)) (by decide) hf (fun _ hf => ?_) (fun _ hf => ?_)
      · refine r_iconst hB (v := 0) (by decide +kernel : decode cX2_fits 39 = .ok (.iconst 0, 1)) (by decide +kernel) ?_
        obtain rfl := Option.some.inj hf
        obtain ⟨rfl, rfl⟩ := hk
        exact r_zret hB (Or.inl rfl) (by decide +kernel : decode cX2_fits 40 = .ok (.ireturn, 1))
      · refine r_aload_n hB 0 rfl (by decide +kernel : decode cX2_fits 18 = .ok (.aload_n 0, 1)) rfl ?_
        refine r_gR hB cf2 2 (by decide) (own := "PulseRemote$Decoder") rfl (Or.inl k_233) (by decide +kernel) (by decide +kernel : decode cX2_fits 19 = .ok (.getfield 18, 3)) hf (fun x19 hf => ?_)
        refine r_iload_n hB 1 rfl (by decide +kernel : decode cX2_fits 22 = .ok (.iload_n 1, 1)) rfl ?_
        refine r_iald hB (by decide +kernel : decode cX2_fits 23 = .ok (.iaload, 1)) hf (fun x23 hf => ?_)
        refine r_iload_n hB 2 rfl (by decide +kernel : decode cX2_fits 24 = .ok (.iload_n 2, 1)) rfl ?_
        refine r_aload_n hB 0 rfl (by decide +kernel : decode cX2_fits 25 = .ok (.aload_n 0, 1)) rfl ?_
        refine r_gI hB cf2 4 (by decide) (own := "PulseRemote$Decoder") rfl (Or.inl k_235) (by decide +kernel) (by decide +kernel : decode cX2_fits 26 = .ok (.getfield 26, 3)) hf (fun x26 hf => ?_)
        refine r_cSi hB [.int x23, .int l2, .int x26] [] (own := "PulseRemote$Decoder") rfl cmX11_matches smX11_matches (Or.inr ⟨_, k_549⟩) (by decide) rfl rfl rfl (Nat.le_of_ble_eq_true rfl) (by decide +kernel : decode cX2_fits 29 = .ok (.invokestatic 87, 3)) (fun z hz => m_X11_matches _ _ _ _ hz) rfl hf (fun z29 hf => ?_)
        refine r_if_eq hB (tgt := 39) (by decide +kernel : decode cX2_fits 32 = .ok (.ifCond .eq 7, 3)) (by decide) hf (fun _ hf => ?_) (fun _ hf => ?_)
        · refine r_iconst hB (v := 0) (by decide +kernel : decode cX2_fits 39 = .ok (.iconst 0, 1)) (by decide +kernel) ?_
          obtain rfl := Option.some.inj hf
          obtain ⟨rfl, rfl⟩ := hk
          exact r_zret hB (Or.inl rfl) (by decide +kernel : decode cX2_fits 40 = .ok (.ireturn, 1))
        · refine r_iconst hB (v := 1) (by decide +kernel : decode cX2_fits 35 = .ok (.iconst 1, 1)) (by decide +kernel) ?_
          refine r_goto hB (tgt := 40) (by decide +kernel : decode cX2_fits 36 = .ok (.goto 4, 3)) (by decide) ?_
          obtain rfl := Option.some.inj hf
          obtain ⟨rfl, rfl⟩ := hk
          exact r_zret hB (Or.inr rfl) (by decide +kernel : decode cX2_fits 40 = .ok (.ireturn, 1))
theorem m_X2_fits (l : Launch) (D : va_G) (cy : Nat → ClassId) (b : Nat) {l0 : Nat} {l1 : Int32} {l2 : Int32} {μ : MS} {z : Int32 × MS} (hf : f_X2_fits l0 l1 l2 μ = some z) : Met l yX2_fits (.code yX2_fits cX2_fits 3 (some .boolean) :: GW) rmX2_fits (Pw D cy b [.ref (b + l0), .int l1, .int l2] μ) (Qw D cy b (some (.int z.1)) (z.2)) rmX2_fits.cells rmX2_fits.slots (fun q => b ≤ q) :=
  met_of (by decide) (Nat.le_of_ble_eq_true rfl) (fun X hB _ => (t_X2_fits_0 hB hf ⟨rfl, rfl⟩))
-- PulseRemote$Decoder.placesOf(I)J
set_option maxHeartbeats 4000000 in
set_option maxRecDepth 100000 in
theorem t_X2_placesOf_37 {X : BX} {D : va_G} {cy : Nat → ClassId} {b : Nat} {r : Option Value} {μ' : MS} (hB : BB X D cy b yX2_placesOf cX2_placesOf 5 (some .long) rmX2_placesOf) {l2 : Int64} {μ : MS} {z : (Int64 × MS)} (hf : f_X2_placesOf_37 l2 μ = some z) (hk : (fun z : Int64 × MS => r = some (.long z.1) ∧ μ' = z.2) z) : WW X D cy b r μ' 5 0 0 37 [(2, .long l2)] [] μ := by
  unfold f_X2_placesOf_37 at hf
  refine r_lload_n hB 0 rfl (by decide +kernel : decode cX2_placesOf 37 = .ok (.lload_n 2, 1)) rfl ?_
  obtain rfl := Option.some.inj hf
  obtain ⟨rfl, rfl⟩ := hk
  exact r_lret hB (by decide +kernel : decode cX2_placesOf 38 = .ok (.lreturn, 1))
set_option maxHeartbeats 4000000 in
set_option maxRecDepth 100000 in
theorem t_X2_placesOf_31 {X : BX} {D : va_G} {cy : Nat → ClassId} {b : Nat} {r : Option Value} {μ' : MS} (hB : BB X D cy b yX2_placesOf cX2_placesOf 5 (some .long) rmX2_placesOf) {l0 : Nat} {l1 : Int32} {l2 : Int64} {l4 : Int32} {μ : MS} {z : ((Nat × Int32 × Int64 × Int32 × MS) ⊕ (Int64 × MS))} (hf : f_X2_placesOf_31 l0 l1 l2 l4 μ = some z) (hk : (Sum.elim (fun s : Nat × Int32 × Int64 × Int32 × MS => WW X D cy b r μ' 5 0 0 5 [(0, .ref (b + s.1)), (1, .int s.2.1), (2, .long s.2.2.1), (4, .int s.2.2.2.1)] [] s.2.2.2.2) (fun z : Int64 × MS => r = some (.long z.1) ∧ μ' = z.2)) z) : WW X D cy b r μ' 5 0 0 31 [(0, .ref (b + l0)), (1, .int l1), (2, .long l2), (4, .int l4)] [] μ := by
  unfold f_X2_placesOf_31 at hf
  refine r_iincB hB 3 rfl (by decide +kernel : decode cX2_placesOf 31 = .ok (.iinc 4 1, 3)) (w := 1) (by decide +kernel) (by decide) hf (fun v31 hf => ?_)
  refine ww_lv (lv' := [(4, .int v31), (0, .ref (b + l0)), (1, .int l1), (2, .long l2)]) rfl ?_
  refine r_goto hB (tgt := 5) (by decide +kernel : decode cX2_placesOf 34 = .ok (.goto (-29), 3)) (by decide) ?_
  obtain rfl := Option.some.inj hf
  exact WW.sub [1, 2, 3, 0] rfl hk
set_option maxHeartbeats 4000000 in
set_option maxRecDepth 100000 in
theorem t_X2_placesOf_5_b {X : BX} {D : va_G} {cy : Nat → ClassId} {b : Nat} {r : Option Value} {μ' : MS} (hB : BB X D cy b yX2_placesOf cX2_placesOf 5 (some .long) rmX2_placesOf) {l0 : Nat} {l1 : Int32} {l2 : Int64} {l4 : Int32} {μ : MS} {z : ((Nat × Int32 × Int64 × Int32 × MS) ⊕ (Int64 × MS))} (hf : f_X2_placesOf_5_b l0 l1 l2 l4 μ = some z) (hk : (Sum.elim (fun s : Nat × Int32 × Int64 × Int32 × MS => WW X D cy b r μ' 5 0 0 5 [(0, .ref (b + s.1)), (1, .int s.2.1), (2, .long s.2.2.1), (4, .int s.2.2.2.1)] [] s.2.2.2.2) (fun z : Int64 × MS => r = some (.long z.1) ∧ μ' = z.2)) z) : WW X D cy b r μ' 5 0 0 5 [(0, .ref (b + l0)), (1, .int l1), (2, .long l2), (4, .int l4)] [] μ := by
  unfold f_X2_placesOf_5_b at hf
  refine r_iload hB 3 rfl (by decide +kernel : decode cX2_placesOf 5 = .ok (.iload 4, 2)) ?_
  refine r_aload_n hB 0 rfl (by decide +kernel : decode cX2_placesOf 7 = .ok (.aload_n 0, 1)) rfl ?_
  refine r_gI hB cf2 3 (by decide) (own := "PulseRemote$Decoder") rfl (Or.inl k_234) (by decide +kernel) (by decide +kernel : decode cX2_placesOf 8 = .ok (.getfield 64, 3)) hf (fun x8 hf => ?_)
  refine r_icmp_ge hB (tgt := 37) (by decide +kernel : decode cX2_placesOf 11 = .ok (.if_icmp .ge 26, 3)) (by decide) hf (fun _ hf => ?_) (fun _ hf => ?_)
  · obtain ⟨_, hx0, rfl⟩ := xr_inv hf
    exact WW.sub [2] rfl (t_X2_placesOf_37 hB hx0 hk)
  · refine r_aload_n hB 0 rfl (by decide +kernel : decode cX2_placesOf 14 = .ok (.aload_n 0, 1)) rfl ?_
    refine r_iload hB 3 rfl (by decide +kernel : decode cX2_placesOf 15 = .ok (.iload 4, 2)) ?_
    refine r_iload_n hB 1 rfl (by decide +kernel : decode cX2_placesOf 17 = .ok (.iload_n 1, 1)) rfl ?_
    refine r_cVi hB [.int l4, .int l1] [] cf2 (own := "PulseRemote$Decoder") rfl cmX2_fits imX2_fits (Or.inl k_545) (by decide) rfl rfl rfl (Nat.le_of_ble_eq_true rfl) (by decide +kernel : decode cX2_placesOf 18 = .ok (.invokevirtual 77, 3)) (fun z hz => m_X2_fits _ _ _ _ hz) rfl hf (fun z18 hf => ?_)
    refine r_if_eq hB (tgt := 31) (by decide +kernel : decode cX2_placesOf 21 = .ok (.ifCond .eq 10, 3)) (by decide) hf (fun _ hf => ?_) (fun _ hf => ?_)
    · exact WW.sub [0, 1, 2, 3] rfl (t_X2_placesOf_31 hB hf hk)
    · refine r_lload_n hB 2 rfl (by decide +kernel : decode cX2_placesOf 24 = .ok (.lload_n 2, 1)) rfl ?_
      refine r_lconst hB (v := 1) (by decide +kernel : decode cX2_placesOf 25 = .ok (.lconst 1, 1)) (by decide +kernel) ?_
      refine r_iload hB 3 rfl (by decide +kernel : decode cX2_placesOf 26 = .ok (.iload 4, 2)) ?_
      refine r_lshl hB (by decide +kernel : decode cX2_placesOf 28 = .ok (.lshl, 1)) ?_
      refine r_lor hB (by decide +kernel : decode cX2_placesOf 29 = .ok (.lor, 1)) ?_
      refine r_nameL hf (fun v30 hf => ?_)
      refine r_lstore_n hB (by decide +kernel : decode cX2_placesOf 30 = .ok (.lstore_n 2, 1)) rfl (by decide) rfl ?_
      refine ww_lv (lv' := [(2, .long v30), (0, .ref (b + l0)), (1, .int l1), (4, .int l4)]) rfl ?_
      exact WW.sub [1, 2, 0, 3] rfl (t_X2_placesOf_31 hB hf hk)
set_option maxHeartbeats 4000000 in
set_option maxRecDepth 100000 in
theorem t_X2_placesOf_5 {X : BX} {D : va_G} {cy : Nat → ClassId} {b : Nat} {r : Option Value} {μ' : MS} (hB : BB X D cy b yX2_placesOf cX2_placesOf 5 (some .long) rmX2_placesOf) {l0 : Nat} {l1 : Int32} {l2 : Int64} {l4 : Int32} {μ : MS} {z : (Int64 × MS)} (hf : f_X2_placesOf_5 l0 l1 l2 l4 μ = some z) (hk : (fun z : Int64 × MS => r = some (.long z.1) ∧ μ' = z.2) z) : WW X D cy b r μ' 5 0 0 5 [(0, .ref (b + l0)), (1, .int l1), (2, .long l2), (4, .int l4)] [] μ :=
  lp_ind (P := fun s : Nat × Int32 × Int64 × Int32 × MS => WW X D cy b r μ' 5 0 0 5 [(0, .ref (b + s.1)), (1, .int s.2.1), (2, .long s.2.2.1), (4, .int s.2.2.2.1)] [] s.2.2.2.2) (Q := (fun z : Int64 × MS => r = some (.long z.1) ∧ μ' = z.2)) (fun s z hz hk => t_X2_placesOf_5_b hB hz hk) (l0, l1, l2, l4, μ) z hf hk
set_option maxHeartbeats 4000000 in
set_option maxRecDepth 100000 in
theorem t_X2_placesOf_0 {X : BX} {D : va_G} {cy : Nat → ClassId} {b : Nat} {r : Option Value} {μ' : MS} (hB : BB X D cy b yX2_placesOf cX2_placesOf 5 (some .long) rmX2_placesOf) {l0 : Nat} {l1 : Int32} {μ : MS} {z : (Int64 × MS)} (hf : f_X2_placesOf l0 l1 μ = some z) (hk : (fun z : Int64 × MS => r = some (.long z.1) ∧ μ' = z.2) z) : WW X D cy b r μ' 5 0 0 0 [(0, .ref (b + l0)), (1, .int l1)] [] μ := by
  unfold f_X2_placesOf at hf
  refine r_lconst hB (v := 0) (by decide +kernel : decode cX2_placesOf 0 = .ok (.lconst 0, 1)) (by decide +kernel) ?_
  refine r_lstore_n hB (by decide +kernel : decode cX2_placesOf 1 = .ok (.lstore_n 2, 1)) rfl (by decide) rfl ?_
  refine ww_lv (lv' := [(2, .long 0), (0, .ref (b + l0)), (1, .int l1)]) rfl ?_
  refine r_iconst hB (v := 2) (by decide +kernel : decode cX2_placesOf 2 = .ok (.iconst 2, 1)) (by decide +kernel) ?_
  refine r_istore hB (by decide +kernel : decode cX2_placesOf 3 = .ok (.istore 4, 2)) (by decide) rfl ?_
  refine ww_lv (lv' := [(4, .int 2), (2, .long 0), (0, .ref (b + l0)), (1, .int l1)]) rfl ?_
  exact WW.sub [2, 3, 1, 0] rfl (t_X2_placesOf_5 hB hf hk)
theorem m_X2_placesOf (l : Launch) (D : va_G) (cy : Nat → ClassId) (b : Nat) {l0 : Nat} {l1 : Int32} {μ : MS} {z : Int64 × MS} (hf : f_X2_placesOf l0 l1 μ = some z) : Met l yX2_placesOf (.code yX2_placesOf cX2_placesOf 5 (some .long) :: GW) rmX2_placesOf (Pw D cy b [.ref (b + l0), .int l1] μ) (Qw D cy b (some (.long z.1)) (z.2)) rmX2_placesOf.cells rmX2_placesOf.slots (fun q => b ≤ q) :=
  met_of (by decide) (Nat.le_of_ble_eq_true rfl) (fun X hB _ => (t_X2_placesOf_0 hB hf ⟨rfl, rfl⟩))
