/-! printed by wip/whole/gen.py -/
-- PulseRemoteModel.makesShort(I)V
set_option maxHeartbeats 4000000 in
set_option maxRecDepth 100000 in
theorem t_X12_makesShort_0 {X : BX} {D : va_G} {cy : Nat → ClassId} {b : Nat} {r : Option Value} {μ' : MS} (hB : BB X D cy b yX12_makesShort cX12_makesShort 2 none rmX12_makesShort) {l0 : Nat} {l1 : Int32} {μ : MS} {z : MS} (hf : f_X12_makesShort l0 l1 μ = some z) (hk : (fun z : MS => r = none ∧ μ' = z) z) : WW X D cy b r μ' 2 0 0 0 [(0, .ref (b + l0)), (1, .int l1)] [] μ := by
  unfold f_X12_makesShort at hf
  refine r_aload_n hB 0 rfl (by decide +kernel : decode cX12_makesShort 0 = .ok (.aload_n 0, 1)) rfl ?_
  refine r_gR hB cf12 11 (by decide) (own := "PulseRemoteModel") rfl (Or.inl k_1126) (by decide +kernel) (by decide +kernel : decode cX12_makesShort 1 = .ok (.getfield 23, 3)) hf (fun x1 hf => ?_)
  refine r_iconst hB (v := 0) (by decide +kernel : decode cX12_makesShort 4 = .ok (.iconst 0, 1)) (by decide +kernel) ?_
  refine r_aload_n hB 0 rfl (by decide +kernel : decode cX12_makesShort 5 = .ok (.aload_n 0, 1)) rfl ?_
  refine r_gR hB cf12 0 (by decide) (own := "PulseRemoteModel") rfl (Or.inl k_1115) (by decide +kernel) (by decide +kernel : decode cX12_makesShort 6 = .ok (.getfield 7, 3)) hf (fun x6 hf => ?_)
  refine r_iload_n hB 1 rfl (by decide +kernel : decode cX12_makesShort 9 = .ok (.iload_n 1, 1)) rfl ?_
  refine r_cSi hB [.int l1] [.ref (b + x6), .int 0, .ref (b + x1)] (own := "PulseRemoteModel") rfl cmX12_at smX12_at (Or.inl ⟨rfl, k_1244⟩) (by decide) rfl rfl rfl (Nat.le_of_ble_eq_true rfl) (by decide +kernel : decode cX12_makesShort 10 = .ok (.invokestatic 72, 3)) (fun z hz => m_X12_at _ _ _ _ hz) rfl hf (fun z10 hf => ?_)
  refine r_iconst hB (v := 1) (by decide +kernel : decode cX12_makesShort 13 = .ok (.iconst 1, 1)) (by decide +kernel) ?_
  refine r_iadd hB (by decide +kernel : decode cX12_makesShort 14 = .ok (.iadd, 1)) ?_
  refine r_iald hB (by decide +kernel : decode cX12_makesShort 15 = .ok (.iaload, 1)) hf (fun x15 hf => ?_)
  refine r_iast hB (by decide +kernel : decode cX12_makesShort 16 = .ok (.iastore, 1)) hf (fun m16 hf => ?_)
  refine r_aload_n hB 0 rfl (by decide +kernel : decode cX12_makesShort 17 = .ok (.aload_n 0, 1)) rfl ?_
  refine r_gR hB cf12 11 (by decide) (own := "PulseRemoteModel") rfl (Or.inl k_1126) (by decide +kernel) (by decide +kernel : decode cX12_makesShort 18 = .ok (.getfield 23, 3)) hf (fun x18 hf => ?_)
  refine r_iconst hB (v := 1) (by decide +kernel : decode cX12_makesShort 21 = .ok (.iconst 1, 1)) (by decide +kernel) ?_
  refine r_aload_n hB 0 rfl (by decide +kernel : decode cX12_makesShort 22 = .ok (.aload_n 0, 1)) rfl ?_
  refine r_gR hB cf12 0 (by decide) (own := "PulseRemoteModel") rfl (Or.inl k_1115) (by decide +kernel) (by decide +kernel : decode cX12_makesShort 23 = .ok (.getfield 7, 3)) hf (fun x23 hf => ?_)
  refine r_iload_n hB 1 rfl (by decide +kernel : decode cX12_makesShort 26 = .ok (.iload_n 1, 1)) rfl ?_
  refine r_cSi hB [.int l1] [.ref (b + x23), .int 1, .ref (b + x18)] (own := "PulseRemoteModel") rfl cmX12_at smX12_at (Or.inl ⟨rfl, k_1244⟩) (by decide) rfl rfl rfl (Nat.le_of_ble_eq_true rfl) (by decide +kernel : decode cX12_makesShort 27 = .ok (.invokestatic 72, 3)) (fun z hz => m_X12_at _ _ _ _ hz) rfl hf (fun z27 hf => ?_)
  refine r_iconst hB (v := 2) (by decide +kernel : decode cX12_makesShort 30 = .ok (.iconst 2, 1)) (by decide +kernel) ?_
  refine r_iadd hB (by decide +kernel : decode cX12_makesShort 31 = .ok (.iadd, 1)) ?_
  refine r_iald hB (by decide +kernel : decode cX12_makesShort 32 = .ok (.iaload, 1)) hf (fun x32 hf => ?_)
  refine r_iconst hB (v := 2) (by decide +kernel : decode cX12_makesShort 33 = .ok (.iconst 2, 1)) (by decide +kernel) ?_
  refine r_idiv hB (by decide +kernel : decode cX12_makesShort 34 = .ok (.idiv, 1)) hf (fun v34 hf => ?_)
  refine r_iast hB (by decide +kernel : decode cX12_makesShort 35 = .ok (.iastore, 1)) hf (fun m35 hf => ?_)
  refine r_aload_n hB 0 rfl (by decide +kernel : decode cX12_makesShort 36 = .ok (.aload_n 0, 1)) rfl ?_
  refine r_gR hB cf12 11 (by decide) (own := "PulseRemoteModel") rfl (Or.inl k_1126) (by decide +kernel) (by decide +kernel : decode cX12_makesShort 37 = .ok (.getfield 23, 3)) hf (fun x37 hf => ?_)
  refine r_iconst hB (v := 2) (by decide +kernel : decode cX12_makesShort 40 = .ok (.iconst 2, 1)) (by decide +kernel) ?_
  refine r_aload_n hB 0 rfl (by decide +kernel : decode cX12_makesShort 41 = .ok (.aload_n 0, 1)) rfl ?_
  refine r_gR hB cf12 0 (by decide) (own := "PulseRemoteModel") rfl (Or.inl k_1115) (by decide +kernel) (by decide +kernel : decode cX12_makesShort 42 = .ok (.getfield 7, 3)) hf (fun x42 hf => ?_)
  refine r_iload_n hB 1 rfl (by decide +kernel : decode cX12_makesShort 45 = .ok (.iload_n 1, 1)) rfl ?_
  refine r_cSi hB [.int l1] [.ref (b + x42), .int 2, .ref (b + x37)] (own := "PulseRemoteModel") rfl cmX12_at smX12_at (Or.inl ⟨rfl, k_1244⟩) (by decide) rfl rfl rfl (Nat.le_of_ble_eq_true rfl) (by decide +kernel : decode cX12_makesShort 46 = .ok (.invokestatic 72, 3)) (fun z hz => m_X12_at _ _ _ _ hz) rfl hf (fun z46 hf => ?_)
  refine r_iconst hB (v := 3) (by decide +kernel : decode cX12_makesShort 49 = .ok (.iconst 3, 1)) (by decide +kernel) ?_
  refine r_iadd hB (by decide +kernel : decode cX12_makesShort 50 = .ok (.iadd, 1)) ?_
  refine r_iald hB (by decide +kernel : decode cX12_makesShort 51 = .ok (.iaload, 1)) hf (fun x51 hf => ?_)
  refine r_iast hB (by decide +kernel : decode cX12_makesShort 52 = .ok (.iastore, 1)) hf (fun m52 hf => ?_)
  refine r_aload_n hB 0 rfl (by decide +kernel : decode cX12_makesShort 53 = .ok (.aload_n 0, 1)) rfl ?_
  refine r_iconst hB (v := 3) (by decide +kernel : decode cX12_makesShort 54 = .ok (.iconst 3, 1)) (by decide +kernel) ?_
  refine r_pI hB cf12 12 (by decide) (own := "PulseRemoteModel") rfl (Or.inl k_1127) (Or.inl rfl) rfl (by decide +kernel : decode cX12_makesShort 55 = .ok (.putfield 179, 3)) hf (fun m55 hf => ?_)
  obtain rfl := Option.some.inj hf
  obtain ⟨rfl, rfl⟩ := hk
  exact r_vret hB (by decide +kernel : decode cX12_makesShort 58 = .ok (.return_, 1))
theorem m_X12_makesShort (l : Launch) (D : va_G) (cy : Nat → ClassId) (b : Nat) {l0 : Nat} {l1 : Int32} {μ : MS} {z : MS} (hf : f_X12_makesShort l0 l1 μ = some z) : Met l yX12_makesShort (.code yX12_makesShort cX12_makesShort 2 none :: GW) rmX12_makesShort (Pw D cy b [.ref (b + l0), .int l1] μ) (Qw D cy b (none) (z)) rmX12_makesShort.cells rmX12_makesShort.slots (fun q => b ≤ q) :=
  met_of (by decide) (Nat.le_of_ble_eq_true rfl) (fun X hB _ => (t_X12_makesShort_0 hB hf ⟨rfl, rfl⟩))
-- PulseRemoteModel.trainAt(I)I
set_option maxHeartbeats 4000000 in
set_option maxRecDepth 100000 in
theorem t_X12_trainAt_0 {X : BX} {D : va_G} {cy : Nat → ClassId} {b : Nat} {r : Option Value} {μ' : MS} (hB : BB X D cy b yX12_trainAt cX12_trainAt 1 (some .int) rmX12_trainAt) {l0 : Int32} {μ : MS} {z : (Int32 × MS)} (hf : f_X12_trainAt l0 μ = some z) (hk : (fun z : Int32 × MS => r = some (.int z.1) ∧ μ' = z.2) z) : WW X D cy b r μ' 1 0 0 0 [(0, .int l0)] [] μ := by
  unfold f_X12_trainAt at hf
  refine r_bipush hB (v := 86) (by decide +kernel : decode cX12_trainAt 0 = .ok (.bipush 86, 2)) (by decide +kernel) ?_
  refine r_sipush hB (v := 200) (by decide +kernel : decode cX12_trainAt 2 = .ok (.sipush 200, 3)) (by decide +kernel) ?_
  refine r_iload_n hB 0 rfl (by decide +kernel : decode cX12_trainAt 5 = .ok (.iload_n 0, 1)) rfl ?_
  refine r_imul hB (by decide +kernel : decode cX12_trainAt 6 = .ok (.imul, 1)) ?_
  refine r_iadd hB (by decide +kernel : decode cX12_trainAt 7 = .ok (.iadd, 1)) ?_
  obtain rfl := Option.some.inj hf
  obtain ⟨rfl, rfl⟩ := hk
  exact r_iret hB (by decide +kernel : decode cX12_trainAt 8 = .ok (.ireturn, 1))
theorem m_X12_trainAt (l : Launch) (D : va_G) (cy : Nat → ClassId) (b : Nat) {l0 : Int32} {μ : MS} {z : Int32 × MS} (hf : f_X12_trainAt l0 μ = some z) : Met l yX12_trainAt (.code yX12_trainAt cX12_trainAt 1 (some .int) :: GW) rmX12_trainAt (Pw D cy b [.int l0] μ) (Qw D cy b (some (.int z.1)) (z.2)) rmX12_trainAt.cells rmX12_trainAt.slots (fun q => b ≤ q) :=
  met_of (by decide) (Nat.le_of_ble_eq_true rfl) (fun X hB _ => (t_X12_trainAt_0 hB hf ⟨rfl, rfl⟩))
-- PulseRemoteModel.looksAt(I)V
set_option maxHeartbeats 4000000 in
set_option maxRecDepth 100000 in
theorem t_X12_looksAt_46 {X : BX} {D : va_G} {cy : Nat → ClassId} {b : Nat} {r : Option Value} {μ' : MS} (hB : BB X D cy b yX12_looksAt cX12_looksAt 3 none rmX12_looksAt)  {μ : MS} {z : MS} (hf : f_X12_looksAt_46  μ = some z) (hk : (fun z : MS => r = none ∧ μ' = z) z) : WW X D cy b r μ' 3 0 0 46 [] [] μ := by
  unfold f_X12_looksAt_46 at hf
  obtain rfl := Option.some.inj hf
  obtain ⟨rfl, rfl⟩ := hk
  exact r_vret hB (by decide +kernel : decode cX12_looksAt 46 = .ok (.return_, 1))
set_option maxHeartbeats 4000000 in
set_option maxRecDepth 100000 in
theorem t_X12_looksAt_15_b {X : BX} {D : va_G} {cy : Nat → ClassId} {b : Nat} {r : Option Value} {μ' : MS} (hB : BB X D cy b yX12_looksAt cX12_looksAt 3 none rmX12_looksAt) {l0 : Nat} {l1 : Int32} {l2 : Int32} {μ : MS} {z : ((Nat × Int32 × Int32 × MS) ⊕ MS)} (hf : f_X12_looksAt_15_b l0 l1 l2 μ = some z) (hk : (Sum.elim (fun s : Nat × Int32 × Int32 × MS => WW X D cy b r μ' 3 0 0 15 [(0, .ref (b + s.1)), (1, .int s.2.1), (2, .int s.2.2.1)] [] s.2.2.2) (fun z : MS => r = none ∧ μ' = z)) z) : WW X D cy b r μ' 3 0 0 15 [(0, .ref (b + l0)), (1, .int l1), (2, .int l2)] [] μ := by
  unfold f_X12_looksAt_15_b at hf
  refine r_iload_n hB 2 rfl (by decide +kernel : decode cX12_looksAt 15 = .ok (.iload_n 2, 1)) rfl ?_
  refine r_aload_n hB 0 rfl (by decide +kernel : decode cX12_looksAt 16 = .ok (.aload_n 0, 1)) rfl ?_
  refine r_gI hB cf12 14 (by decide) (own := "PulseRemoteModel") rfl (Or.inl k_1129) (by decide +kernel) (by decide +kernel : decode cX12_looksAt 17 = .ok (.getfield 193, 3)) hf (fun x17 hf => ?_)
  refine r_icmp_ge hB (tgt := 46) (by decide +kernel : decode cX12_looksAt 20 = .ok (.if_icmp .ge 26, 3)) (by decide) hf (fun _ hf => ?_) (fun _ hf => ?_)
  · obtain ⟨_, hx0, rfl⟩ := xr_inv hf
    exact WW.sub [] rfl (t_X12_looksAt_46 hB hx0 hk)
  · refine r_aload_n hB 0 rfl (by decide +kernel : decode cX12_looksAt 23 = .ok (.aload_n 0, 1)) rfl ?_
    refine r_gR hB cf12 13 (by decide) (own := "PulseRemoteModel") rfl (Or.inl k_1128) (by decide +kernel) (by decide +kernel : decode cX12_looksAt 24 = .ok (.getfield 26, 3)) hf (fun x24 hf => ?_)
    refine r_iload_n hB 2 rfl (by decide +kernel : decode cX12_looksAt 27 = .ok (.iload_n 2, 1)) rfl ?_
    refine r_aload_n hB 0 rfl (by decide +kernel : decode cX12_looksAt 28 = .ok (.aload_n 0, 1)) rfl ?_
    refine r_gR hB cf12 0 (by decide) (own := "PulseRemoteModel") rfl (Or.inl k_1115) (by decide +kernel) (by decide +kernel : decode cX12_looksAt 29 = .ok (.getfield 7, 3)) hf (fun x29 hf => ?_)
    refine r_iload_n hB 1 rfl (by decide +kernel : decode cX12_looksAt 32 = .ok (.iload_n 1, 1)) rfl ?_
    refine r_cSi hB [.int l1] [.ref (b + x29), .int l2, .ref (b + x24)] (own := "PulseRemoteModel") rfl cmX12_trainAt smX12_trainAt (Or.inl ⟨rfl, k_1370⟩) (by decide) rfl rfl rfl (Nat.le_of_ble_eq_true rfl) (by decide +kernel : decode cX12_looksAt 33 = .ok (.invokestatic 196, 3)) (fun z hz => m_X12_trainAt _ _ _ _ hz) rfl hf (fun z33 hf => ?_)
    refine r_iload_n hB 2 rfl (by decide +kernel : decode cX12_looksAt 36 = .ok (.iload_n 2, 1)) rfl ?_
    refine r_iadd hB (by decide +kernel : decode cX12_looksAt 37 = .ok (.iadd, 1)) ?_
    refine r_iald hB (by decide +kernel : decode cX12_looksAt 38 = .ok (.iaload, 1)) hf (fun x38 hf => ?_)
    refine r_iast hB (by decide +kernel : decode cX12_looksAt 39 = .ok (.iastore, 1)) hf (fun m39 hf => ?_)
    refine r_iincB hB 2 rfl (by decide +kernel : decode cX12_looksAt 40 = .ok (.iinc 2 1, 3)) (w := 1) (by decide +kernel) (by decide) hf (fun v40 hf => ?_)
    refine ww_lv (lv' := [(2, .int v40), (0, .ref (b + l0)), (1, .int l1)]) rfl ?_
    refine r_goto hB (tgt := 15) (by decide +kernel : decode cX12_looksAt 43 = .ok (.goto (-28), 3)) (by decide) ?_
    obtain rfl := Option.some.inj hf
    exact WW.sub [1, 2, 0] rfl hk
set_option maxHeartbeats 4000000 in
set_option maxRecDepth 100000 in
theorem t_X12_looksAt_15 {X : BX} {D : va_G} {cy : Nat → ClassId} {b : Nat} {r : Option Value} {μ' : MS} (hB : BB X D cy b yX12_looksAt cX12_looksAt 3 none rmX12_looksAt) {l0 : Nat} {l1 : Int32} {l2 : Int32} {μ : MS} {z : MS} (hf : f_X12_looksAt_15 l0 l1 l2 μ = some z) (hk : (fun z : MS => r = none ∧ μ' = z) z) : WW X D cy b r μ' 3 0 0 15 [(0, .ref (b + l0)), (1, .int l1), (2, .int l2)] [] μ :=
  lp_ind (P := fun s : Nat × Int32 × Int32 × MS => WW X D cy b r μ' 3 0 0 15 [(0, .ref (b + s.1)), (1, .int s.2.1), (2, .int s.2.2.1)] [] s.2.2.2) (Q := (fun z : MS => r = none ∧ μ' = z)) (fun s z hz hk => t_X12_looksAt_15_b hB hz hk) (l0, l1, l2, μ) z hf hk
set_option maxHeartbeats 4000000 in
set_option maxRecDepth 100000 in
theorem t_X12_looksAt_0 {X : BX} {D : va_G} {cy : Nat → ClassId} {b : Nat} {r : Option Value} {μ' : MS} (hB : BB X D cy b yX12_looksAt cX12_looksAt 3 none rmX12_looksAt) {l0 : Nat} {l1 : Int32} {μ : MS} {z : MS} (hf : f_X12_looksAt l0 l1 μ = some z) (hk : (fun z : MS => r = none ∧ μ' = z) z) : WW X D cy b r μ' 3 0 0 0 [(0, .ref (b + l0)), (1, .int l1)] [] μ := by
  unfold f_X12_looksAt at hf
  refine r_aload_n hB 0 rfl (by decide +kernel : decode cX12_looksAt 0 = .ok (.aload_n 0, 1)) rfl ?_
  refine r_aload_n hB 0 rfl (by decide +kernel : decode cX12_looksAt 1 = .ok (.aload_n 0, 1)) rfl ?_
  refine r_gR hB cf12 0 (by decide) (own := "PulseRemoteModel") rfl (Or.inl k_1115) (by decide +kernel) (by decide +kernel : decode cX12_looksAt 2 = .ok (.getfield 7, 3)) hf (fun x2 hf => ?_)
  refine r_bipush hB (v := 83) (by decide +kernel : decode cX12_looksAt 5 = .ok (.bipush 83, 2)) (by decide +kernel) ?_
  refine r_iload_n hB 1 rfl (by decide +kernel : decode cX12_looksAt 7 = .ok (.iload_n 1, 1)) rfl ?_
  refine r_iadd hB (by decide +kernel : decode cX12_looksAt 8 = .ok (.iadd, 1)) ?_
  refine r_iald hB (by decide +kernel : decode cX12_looksAt 9 = .ok (.iaload, 1)) hf (fun x9 hf => ?_)
  refine r_pI hB cf12 14 (by decide) (own := "PulseRemoteModel") rfl (Or.inl k_1129) (Or.inl rfl) rfl (by decide +kernel : decode cX12_looksAt 10 = .ok (.putfield 193, 3)) hf (fun m10 hf => ?_)
  refine r_iconst hB (v := 0) (by decide +kernel : decode cX12_looksAt 13 = .ok (.iconst 0, 1)) (by decide +kernel) ?_
  refine r_istore_n hB (by decide +kernel : decode cX12_looksAt 14 = .ok (.istore_n 2, 1)) rfl (by decide) rfl ?_
  refine ww_lv (lv' := [(2, .int 0), (0, .ref (b + l0)), (1, .int l1)]) rfl ?_
  exact WW.sub [1, 2, 0] rfl (t_X12_looksAt_15 hB hf hk)
theorem m_X12_looksAt (l : Launch) (D : va_G) (cy : Nat → ClassId) (b : Nat) {l0 : Nat} {l1 : Int32} {μ : MS} {z : MS} (hf : f_X12_looksAt l0 l1 μ = some z) : Met l yX12_looksAt (.code yX12_looksAt cX12_looksAt 3 none :: GW) rmX12_looksAt (Pw D cy b [.ref (b + l0), .int l1] μ) (Qw D cy b (none) (z)) rmX12_looksAt.cells rmX12_looksAt.slots (fun q => b ≤ q) :=
  met_of (by decide) (Nat.le_of_ble_eq_true rfl) (fun X hB _ => (t_X12_looksAt_0 hB hf ⟨rfl, rfl⟩))
-- PulseRemoteModel.append(II)I
set_option maxHeartbeats 4000000 in
set_option maxRecDepth 100000 in
theorem t_X12_append_0 {X : BX} {D : va_G} {cy : Nat → ClassId} {b : Nat} {r : Option Value} {μ' : MS} (hB : BB X D cy b yX12_append cX12_append 3 (some .int) rmX12_append) {l0 : Nat} {l1 : Int32} {l2 : Int32} {μ : MS} {z : (Int32 × MS)} (hf : f_X12_append l0 l1 l2 μ = some z) (hk : (fun z : Int32 × MS => r = some (.int z.1) ∧ μ' = z.2) z) : WW X D cy b r μ' 3 0 0 0 [(0, .ref (b + l0)), (1, .int l1), (2, .int l2)] [] μ := by
  unfold f_X12_append at hf
  refine r_iload_n hB 1 rfl (by decide +kernel : decode cX12_append 0 = .ok (.iload_n 1, 1)) rfl ?_
  refine r_cSi hB [.int l1] [] (own := "PulseRemoteModel") rfl cmX12_isSlot smX12_isSlot (Or.inl ⟨rfl, k_1367⟩) (by decide) rfl rfl rfl (Nat.le_of_ble_eq_true rfl) (by decide +kernel : decode cX12_append 1 = .ok (.invokestatic 199, 3)) (fun z hz => m_X12_isSlot _ _ _ _ hz) rfl hf (fun z1 hf => ?_)
  refine r_if_eq hB (tgt := 17) (by decide +kernel : decode cX12_append 4 = .ok (.ifCond .eq 13, 3)) (by decide) hf (fun _ hf => ?_) (fun _ hf => ?_)
  · refine r_iconst hB (v := (-1)) (by decide +kernel : decode cX12_append 17 = .ok (.iconst (-1), 1)) (by decide +kernel) ?_
    obtain rfl := Option.some.inj hf
    obtain ⟨rfl, rfl⟩ := hk
    exact r_iret hB (by decide +kernel : decode cX12_append 18 = .ok (.ireturn, 1))
  · refine r_iload_n hB 2 rfl (by decide +kernel : decode cX12_append 7 = .ok (.iload_n 2, 1)) rfl ?_
    refine r_iconst hB (v := 1) (by decide +kernel : decode cX12_append 8 = .ok (.iconst 1, 1)) (by decide +kernel) ?_
    refine r_ldc hB (v := 60000) (own := "PulseRemoteModel") rfl k_1301 (by decide +kernel : decode cX12_append 9 = .ok (.ldc 116, 2)) ?_
    refine r_cSi hB [.int l2, .int 1, .int 60000] [] (own := "PulseRemoteModel") rfl cmX12_in smX12_in (Or.inl ⟨rfl, k_1233⟩) (by decide) rfl rfl rfl (Nat.le_of_ble_eq_true rfl) (by decide +kernel : decode cX12_append 11 = .ok (.invokestatic 68, 3)) (fun z hz => m_X12_in _ _ _ _ hz) rfl hf (fun z11 hf => ?_)
    refine r_if_ne hB (tgt := 19) (by decide +kernel : decode cX12_append 14 = .ok (.ifCond .ne 5, 3)) (by decide) hf (fun _ hf => ?_) (fun _ hf => ?_)
    · refine r_iconst hB (v := (-1)) (by decide +kernel : decode cX12_append 17 = .ok (.iconst (-1), 1)) (by decide +kernel) ?_
      obtain rfl := Option.some.inj hf
      obtain ⟨rfl, rfl⟩ := hk
      exact r_iret hB (by decide +kernel : decode cX12_append 18 = .ok (.ireturn, 1))
    · refine r_aload_n hB 0 rfl (by decide +kernel : decode cX12_append 19 = .ok (.aload_n 0, 1)) rfl ?_
      refine r_gR hB cf12 0 (by decide) (own := "PulseRemoteModel") rfl (Or.inl k_1115) (by decide +kernel) (by decide +kernel : decode cX12_append 20 = .ok (.getfield 7, 3)) hf (fun x20 hf => ?_)
      refine r_bipush hB (v := 83) (by decide +kernel : decode cX12_append 23 = .ok (.bipush 83, 2)) (by decide +kernel) ?_
      refine r_iload_n hB 1 rfl (by decide +kernel : decode cX12_append 25 = .ok (.iload_n 1, 1)) rfl ?_
      refine r_iadd hB (by decide +kernel : decode cX12_append 26 = .ok (.iadd, 1)) ?_
      refine r_iald hB (by decide +kernel : decode cX12_append 27 = .ok (.iaload, 1)) hf (fun x27 hf => ?_)
      refine r_sipush hB (v := 200) (by decide +kernel : decode cX12_append 28 = .ok (.sipush 200, 3)) (by decide +kernel) ?_
      refine r_icmp_ne hB (tgt := 37) (by decide +kernel : decode cX12_append 31 = .ok (.if_icmp .ne 6, 3)) (by decide) hf (fun _ hf => ?_) (fun _ hf => ?_)
      · refine r_bipush hB (v := (-3)) (by decide +kernel : decode cX12_append 34 = .ok (.bipush (-3), 2)) (by decide +kernel) ?_
        obtain rfl := Option.some.inj hf
        obtain ⟨rfl, rfl⟩ := hk
        exact r_iret hB (by decide +kernel : decode cX12_append 36 = .ok (.ireturn, 1))
      · refine r_aload_n hB 0 rfl (by decide +kernel : decode cX12_append 37 = .ok (.aload_n 0, 1)) rfl ?_
        refine r_cVv hB [] [] cf12 (own := "PulseRemoteModel") rfl cmX12_note imX12_note (Or.inl k_1236) (by decide) rfl rfl rfl (Nat.le_of_ble_eq_true rfl) (by decide +kernel : decode cX12_append 38 = .ok (.invokevirtual 80, 3)) (fun z hz => m_X12_note _ _ _ _ hz) rfl hf (fun z38 hf => ?_)
        refine r_aload_n hB 0 rfl (by decide +kernel : decode cX12_append 41 = .ok (.aload_n 0, 1)) rfl ?_
        refine r_gR hB cf12 0 (by decide) (own := "PulseRemoteModel") rfl (Or.inl k_1115) (by decide +kernel) (by decide +kernel : decode cX12_append 42 = .ok (.getfield 7, 3)) hf (fun x42 hf => ?_)
        refine r_iload_n hB 1 rfl (by decide +kernel : decode cX12_append 45 = .ok (.iload_n 1, 1)) rfl ?_
        refine r_cSi hB [.int l1] [.ref (b + x42)] (own := "PulseRemoteModel") rfl cmX12_trainAt smX12_trainAt (Or.inl ⟨rfl, k_1370⟩) (by decide) rfl rfl rfl (Nat.le_of_ble_eq_true rfl) (by decide +kernel : decode cX12_append 46 = .ok (.invokestatic 196, 3)) (fun z hz => m_X12_trainAt _ _ _ _ hz) rfl hf (fun z46 hf => ?_)
        refine r_aload_n hB 0 rfl (by decide +kernel : decode cX12_append 49 = .ok (.aload_n 0, 1)) rfl ?_
        refine r_gR hB cf12 0 (by decide) (own := "PulseRemoteModel") rfl (Or.inl k_1115) (by decide +kernel) (by decide +kernel : decode cX12_append 50 = .ok (.getfield 7, 3)) hf (fun x50 hf => ?_)
        refine r_bipush hB (v := 83) (by decide +kernel : decode cX12_append 53 = .ok (.bipush 83, 2)) (by decide +kernel) ?_
        refine r_iload_n hB 1 rfl (by decide +kernel : decode cX12_append 55 = .ok (.iload_n 1, 1)) rfl ?_
        refine r_iadd hB (by decide +kernel : decode cX12_append 56 = .ok (.iadd, 1)) ?_
        refine r_iald hB (by decide +kernel : decode cX12_append 57 = .ok (.iaload, 1)) hf (fun x57 hf => ?_)
        refine r_iadd hB (by decide +kernel : decode cX12_append 58 = .ok (.iadd, 1)) ?_
        refine r_iload_n hB 2 rfl (by decide +kernel : decode cX12_append 59 = .ok (.iload_n 2, 1)) rfl ?_
        refine r_iast hB (by decide +kernel : decode cX12_append 60 = .ok (.iastore, 1)) hf (fun m60 hf => ?_)
        refine r_aload_n hB 0 rfl (by decide +kernel : decode cX12_append 61 = .ok (.aload_n 0, 1)) rfl ?_
        refine r_gR hB cf12 0 (by decide) (own := "PulseRemoteModel") rfl (Or.inl k_1115) (by decide +kernel) (by decide +kernel : decode cX12_append 62 = .ok (.getfield 7, 3)) hf (fun x62 hf => ?_)
        refine r_bipush hB (v := 83) (by decide +kernel : decode cX12_append 65 = .ok (.bipush 83, 2)) (by decide +kernel) ?_
        refine r_iload_n hB 1 rfl (by decide +kernel : decode cX12_append 67 = .ok (.iload_n 1, 1)) rfl ?_
        refine r_iadd hB (by decide +kernel : decode cX12_append 68 = .ok (.iadd, 1)) ?_
        refine r_dup2 hB (by decide +kernel : decode cX12_append 69 = .ok (.dup2, 1)) rfl rfl ?_
        refine r_iald hB (by decide +kernel : decode cX12_append 70 = .ok (.iaload, 1)) hf (fun x70 hf => ?_)
        refine r_iconst hB (v := 1) (by decide +kernel : decode cX12_append 71 = .ok (.iconst 1, 1)) (by decide +kernel) ?_
        refine r_iadd hB (by decide +kernel : decode cX12_append 72 = .ok (.iadd, 1)) ?_
        refine r_iast hB (by decide +kernel : decode cX12_append 73 = .ok (.iastore, 1)) hf (fun m73 hf => ?_)
        refine r_aload_n hB 0 rfl (by decide +kernel : decode cX12_append 74 = .ok (.aload_n 0, 1)) rfl ?_
        refine r_gR hB cf12 0 (by decide) (own := "PulseRemoteModel") rfl (Or.inl k_1115) (by decide +kernel) (by decide +kernel : decode cX12_append 75 = .ok (.getfield 7, 3)) hf (fun x75 hf => ?_)
        refine r_bipush hB (v := 83) (by decide +kernel : decode cX12_append 78 = .ok (.bipush 83, 2)) (by decide +kernel) ?_
        refine r_iload_n hB 1 rfl (by decide +kernel : decode cX12_append 80 = .ok (.iload_n 1, 1)) rfl ?_
        refine r_iadd hB (by decide +kernel : decode cX12_append 81 = .ok (.iadd, 1)) ?_
        refine r_iald hB (by decide +kernel : decode cX12_append 82 = .ok (.iaload, 1)) hf (fun x82 hf => ?_)
        obtain rfl := Option.some.inj hf
        obtain ⟨rfl, rfl⟩ := hk
        exact r_iret hB (by decide +kernel : decode cX12_append 83 = .ok (.ireturn, 1))
theorem m_X12_append (l : Launch) (D : va_G) (cy : Nat → ClassId) (b : Nat) {l0 : Nat} {l1 : Int32} {l2 : Int32} {μ : MS} {z : Int32 × MS} (hf : f_X12_append l0 l1 l2 μ = some z) : Met l yX12_append (.code yX12_append cX12_append 3 (some .int) :: GW) rmX12_append (Pw D cy b [.ref (b + l0), .int l1, .int l2] μ) (Qw D cy b (some (.int z.1)) (z.2)) rmX12_append.cells rmX12_append.slots (fun q => b ≤ q) :=
  met_of (by decide) (Nat.le_of_ble_eq_true rfl) (fun X hB _ => (t_X12_append_0 hB hf ⟨rfl, rfl⟩))
-- PulseRemoteModel.sends(II)I
set_option maxHeartbeats 4000000 in
set_option maxRecDepth 100000 in
theorem t_X12_sends_116 {X : BX} {D : va_G} {cy : Nat → ClassId} {b : Nat} {r : Option Value} {μ' : MS} (hB : BB X D cy b yX12_sends cX12_sends 6 (some .int) rmX12_sends) {l0 : Nat} {l1 : Int32} {l3 : Int32} {l4 : Int32} {μ : MS} {z : (Int32 × MS)} (hf : f_X12_sends_116 l0 l1 l3 l4 μ = some z) (hk : (fun z : Int32 × MS => r = some (.int z.1) ∧ μ' = z.2) z) : WW X D cy b r μ' 6 0 0 116 [(0, .ref (b + l0)), (1, .int l1), (3, .int l3), (4, .int l4)] [] μ := by
  unfold f_X12_sends_116 at hf
  refine r_aload_n hB 0 rfl (by decide +kernel : decode cX12_sends 116 = .ok (.aload_n 0, 1)) rfl ?_
  refine r_gR hB cf12 0 (by decide) (own := "PulseRemoteModel") rfl (Or.inl k_1115) (by decide +kernel) (by decide +kernel : decode cX12_sends 117 = .ok (.getfield 7, 3)) hf (fun x117 hf => ?_)
  refine r_bipush hB (v := 83) (by decide +kernel : decode cX12_sends 120 = .ok (.bipush 83, 2)) (by decide +kernel) ?_
  refine r_iload_n hB 1 rfl (by decide +kernel : decode cX12_sends 122 = .ok (.iload_n 1, 1)) rfl ?_
  refine r_iadd hB (by decide +kernel : decode cX12_sends 123 = .ok (.iadd, 1)) ?_
  refine r_iload_n hB 2 rfl (by decide +kernel : decode cX12_sends 124 = .ok (.iload_n 3, 1)) rfl ?_
  refine r_iload hB 3 rfl (by decide +kernel : decode cX12_sends 125 = .ok (.iload 4, 2)) ?_
  refine r_iadd hB (by decide +kernel : decode cX12_sends 127 = .ok (.iadd, 1)) ?_
  refine r_aload_n hB 0 rfl (by decide +kernel : decode cX12_sends 128 = .ok (.aload_n 0, 1)) rfl ?_
  refine r_gI hB cf12 12 (by decide) (own := "PulseRemoteModel") rfl (Or.inl k_1127) (by decide +kernel) (by decide +kernel : decode cX12_sends 129 = .ok (.getfield 179, 3)) hf (fun x129 hf => ?_)
  refine r_iadd hB (by decide +kernel : decode cX12_sends 132 = .ok (.iadd, 1)) ?_
  refine r_iast hB (by decide +kernel : decode cX12_sends 133 = .ok (.iastore, 1)) hf (fun m133 hf => ?_)
  refine r_aload_n hB 0 rfl (by decide +kernel : decode cX12_sends 134 = .ok (.aload_n 0, 1)) rfl ?_
  refine r_gR hB cf12 0 (by decide) (own := "PulseRemoteModel") rfl (Or.inl k_1115) (by decide +kernel) (by decide +kernel : decode cX12_sends 135 = .ok (.getfield 7, 3)) hf (fun x135 hf => ?_)
  refine r_bipush hB (v := 83) (by decide +kernel : decode cX12_sends 138 = .ok (.bipush 83, 2)) (by decide +kernel) ?_
  refine r_iload_n hB 1 rfl (by decide +kernel : decode cX12_sends 140 = .ok (.iload_n 1, 1)) rfl ?_
  refine r_iadd hB (by decide +kernel : decode cX12_sends 141 = .ok (.iadd, 1)) ?_
  refine r_iald hB (by decide +kernel : decode cX12_sends 142 = .ok (.iaload, 1)) hf (fun x142 hf => ?_)
  obtain rfl := Option.some.inj hf
  obtain ⟨rfl, rfl⟩ := hk
  exact r_iret hB (by decide +kernel : decode cX12_sends 143 = .ok (.ireturn, 1))
set_option maxHeartbeats 4000000 in
set_option maxRecDepth 100000 in
theorem t_X12_sends_77_b {X : BX} {D : va_G} {cy : Nat → ClassId} {b : Nat} {r : Option Value} {μ' : MS} (hB : BB X D cy b yX12_sends cX12_sends 6 (some .int) rmX12_sends) {l0 : Nat} {l1 : Int32} {l3 : Int32} {l4 : Int32} {l5 : Int32} {μ : MS} {z : ((Nat × Int32 × Int32 × Int32 × Int32 × MS) ⊕ (Int32 × MS))} (hf : f_X12_sends_77_b l0 l1 l3 l4 l5 μ = some z) (hk : (Sum.elim (fun s : Nat × Int32 × Int32 × Int32 × Int32 × MS => WW X D cy b r μ' 6 0 0 77 [(0, .ref (b + s.1)), (1, .int s.2.1), (3, .int s.2.2.1), (4, .int s.2.2.2.1), (5, .int s.2.2.2.2.1)] [] s.2.2.2.2.2) (fun z : Int32 × MS => r = some (.int z.1) ∧ μ' = z.2)) z) : WW X D cy b r μ' 6 0 0 77 [(0, .ref (b + l0)), (1, .int l1), (3, .int l3), (4, .int l4), (5, .int l5)] [] μ := by
  unfold f_X12_sends_77_b at hf
  refine r_iload hB 4 rfl (by decide +kernel : decode cX12_sends 77 = .ok (.iload 5, 2)) ?_
  refine r_aload_n hB 0 rfl (by decide +kernel : decode cX12_sends 79 = .ok (.aload_n 0, 1)) rfl ?_
  refine r_gI hB cf12 12 (by decide) (own := "PulseRemoteModel") rfl (Or.inl k_1127) (by decide +kernel) (by decide +kernel : decode cX12_sends 80 = .ok (.getfield 179, 3)) hf (fun x80 hf => ?_)
  refine r_icmp_ge hB (tgt := 116) (by decide +kernel : decode cX12_sends 83 = .ok (.if_icmp .ge 33, 3)) (by decide) hf (fun _ hf => ?_) (fun _ hf => ?_)
  · obtain ⟨_, hx0, rfl⟩ := xr_inv hf
    exact WW.sub [0, 1, 2, 3] rfl (t_X12_sends_116 hB hx0 hk)
  · refine r_aload_n hB 0 rfl (by decide +kernel : decode cX12_sends 86 = .ok (.aload_n 0, 1)) rfl ?_
    refine r_gR hB cf12 0 (by decide) (own := "PulseRemoteModel") rfl (Or.inl k_1115) (by decide +kernel) (by decide +kernel : decode cX12_sends 87 = .ok (.getfield 7, 3)) hf (fun x87 hf => ?_)
    refine r_iload_n hB 1 rfl (by decide +kernel : decode cX12_sends 90 = .ok (.iload_n 1, 1)) rfl ?_
    refine r_cSi hB [.int l1] [.ref (b + x87)] (own := "PulseRemoteModel") rfl cmX12_trainAt smX12_trainAt (Or.inl ⟨rfl, k_1370⟩) (by decide) rfl rfl rfl (Nat.le_of_ble_eq_true rfl) (by decide +kernel : decode cX12_sends 91 = .ok (.invokestatic 196, 3)) (fun z hz => m_X12_trainAt _ _ _ _ hz) rfl hf (fun z91 hf => ?_)
    refine r_iload_n hB 2 rfl (by decide +kernel : decode cX12_sends 94 = .ok (.iload_n 3, 1)) rfl ?_
    refine r_iadd hB (by decide +kernel : decode cX12_sends 95 = .ok (.iadd, 1)) ?_
    refine r_iload hB 3 rfl (by decide +kernel : decode cX12_sends 96 = .ok (.iload 4, 2)) ?_
    refine r_iadd hB (by decide +kernel : decode cX12_sends 98 = .ok (.iadd, 1)) ?_
    refine r_iload hB 4 rfl (by decide +kernel : decode cX12_sends 99 = .ok (.iload 5, 2)) ?_
    refine r_iadd hB (by decide +kernel : decode cX12_sends 101 = .ok (.iadd, 1)) ?_
    refine r_aload_n hB 0 rfl (by decide +kernel : decode cX12_sends 102 = .ok (.aload_n 0, 1)) rfl ?_
    refine r_gR hB cf12 11 (by decide) (own := "PulseRemoteModel") rfl (Or.inl k_1126) (by decide +kernel) (by decide +kernel : decode cX12_sends 103 = .ok (.getfield 23, 3)) hf (fun x103 hf => ?_)
    refine r_iload hB 4 rfl (by decide +kernel : decode cX12_sends 106 = .ok (.iload 5, 2)) ?_
    refine r_iald hB (by decide +kernel : decode cX12_sends 108 = .ok (.iaload, 1)) hf (fun x108 hf => ?_)
    refine r_iast hB (by decide +kernel : decode cX12_sends 109 = .ok (.iastore, 1)) hf (fun m109 hf => ?_)
    refine r_iincB hB 4 rfl (by decide +kernel : decode cX12_sends 110 = .ok (.iinc 5 1, 3)) (w := 1) (by decide +kernel) (by decide) hf (fun v110 hf => ?_)
    refine ww_lv (lv' := [(5, .int v110), (0, .ref (b + l0)), (1, .int l1), (3, .int l3), (4, .int l4)]) rfl ?_
    refine r_goto hB (tgt := 77) (by decide +kernel : decode cX12_sends 113 = .ok (.goto (-36), 3)) (by decide) ?_
    obtain rfl := Option.some.inj hf
    exact WW.sub [1, 2, 3, 4, 0] rfl hk
set_option maxHeartbeats 4000000 in
set_option maxRecDepth 100000 in
theorem t_X12_sends_77 {X : BX} {D : va_G} {cy : Nat → ClassId} {b : Nat} {r : Option Value} {μ' : MS} (hB : BB X D cy b yX12_sends cX12_sends 6 (some .int) rmX12_sends) {l0 : Nat} {l1 : Int32} {l3 : Int32} {l4 : Int32} {l5 : Int32} {μ : MS} {z : (Int32 × MS)} (hf : f_X12_sends_77 l0 l1 l3 l4 l5 μ = some z) (hk : (fun z : Int32 × MS => r = some (.int z.1) ∧ μ' = z.2) z) : WW X D cy b r μ' 6 0 0 77 [(0, .ref (b + l0)), (1, .int l1), (3, .int l3), (4, .int l4), (5, .int l5)] [] μ :=
  lp_ind (P := fun s : Nat × Int32 × Int32 × Int32 × Int32 × MS => WW X D cy b r μ' 6 0 0 77 [(0, .ref (b + s.1)), (1, .int s.2.1), (3, .int s.2.2.1), (4, .int s.2.2.2.1), (5, .int s.2.2.2.2.1)] [] s.2.2.2.2.2) (Q := (fun z : Int32 × MS => r = some (.int z.1) ∧ μ' = z.2)) (fun s z hz hk => t_X12_sends_77_b hB hz hk) (l0, l1, l3, l4, l5, μ) z hf hk
set_option maxHeartbeats 4000000 in
set_option maxRecDepth 100000 in
theorem t_X12_sends_74 {X : BX} {D : va_G} {cy : Nat → ClassId} {b : Nat} {r : Option Value} {μ' : MS} (hB : BB X D cy b yX12_sends cX12_sends 6 (some .int) rmX12_sends) {l0 : Nat} {l1 : Int32} {l3 : Int32} {l4 : Int32} {μ : MS} {z : (Int32 × MS)} (hf : f_X12_sends_74 l0 l1 l3 l4 μ = some z) (hk : (fun z : Int32 × MS => r = some (.int z.1) ∧ μ' = z.2) z) : WW X D cy b r μ' 6 0 0 74 [(0, .ref (b + l0)), (1, .int l1), (3, .int l3), (4, .int l4)] [] μ := by
  unfold f_X12_sends_74 at hf
  refine r_iconst hB (v := 0) (by decide +kernel : decode cX12_sends 74 = .ok (.iconst 0, 1)) (by decide +kernel) ?_
  refine r_istore hB (by decide +kernel : decode cX12_sends 75 = .ok (.istore 5, 2)) (by decide) rfl ?_
  refine ww_lv (lv' := [(5, .int 0), (0, .ref (b + l0)), (1, .int l1), (3, .int l3), (4, .int l4)]) rfl ?_
  exact WW.sub [1, 2, 3, 4, 0] rfl (t_X12_sends_77 hB hf hk)
set_option maxHeartbeats 4000000 in
set_option maxRecDepth 100000 in
theorem t_X12_sends_32 {X : BX} {D : va_G} {cy : Nat → ClassId} {b : Nat} {r : Option Value} {μ' : MS} (hB : BB X D cy b yX12_sends cX12_sends 6 (some .int) rmX12_sends) {l0 : Nat} {l1 : Int32} {l2 : Int32} {l3 : Int32} {s0 : Int32} {μ : MS} {z : (Int32 × MS)} (hf : f_X12_sends_32 l0 l1 l2 l3 s0 μ = some z) (hk : (fun z : Int32 × MS => r = some (.int z.1) ∧ μ' = z.2) z) : WW X D cy b r μ' 6 0 0 32 [(0, .ref (b + l0)), (1, .int l1), (2, .int l2), (3, .int l3)] [.int s0] μ := by
  unfold f_X12_sends_32 at hf
  refine r_istore hB (by decide +kernel : decode cX12_sends 32 = .ok (.istore 4, 2)) (by decide) rfl ?_
  refine ww_lv (lv' := [(4, .int s0), (0, .ref (b + l0)), (1, .int l1), (2, .int l2), (3, .int l3)]) rfl ?_
  refine r_iload_n hB 4 rfl (by decide +kernel : decode cX12_sends 34 = .ok (.iload_n 3, 1)) rfl ?_
  refine r_iload hB 0 rfl (by decide +kernel : decode cX12_sends 35 = .ok (.iload 4, 2)) ?_
  refine r_iadd hB (by decide +kernel : decode cX12_sends 37 = .ok (.iadd, 1)) ?_
  refine r_aload_n hB 1 rfl (by decide +kernel : decode cX12_sends 38 = .ok (.aload_n 0, 1)) rfl ?_
  refine r_gI hB cf12 12 (by decide) (own := "PulseRemoteModel") rfl (Or.inl k_1127) (by decide +kernel) (by decide +kernel : decode cX12_sends 39 = .ok (.getfield 179, 3)) hf (fun x39 hf => ?_)
  refine r_iadd hB (by decide +kernel : decode cX12_sends 42 = .ok (.iadd, 1)) ?_
  refine r_sipush hB (v := 200) (by decide +kernel : decode cX12_sends 43 = .ok (.sipush 200, 3)) (by decide +kernel) ?_
  refine r_icmp_le hB (tgt := 52) (by decide +kernel : decode cX12_sends 46 = .ok (.if_icmp .le 6, 3)) (by decide) hf (fun _ hf => ?_) (fun _ hf => ?_)
  · refine r_aload_n hB 1 rfl (by decide +kernel : decode cX12_sends 52 = .ok (.aload_n 0, 1)) rfl ?_
    refine r_cVv hB [] [] cf12 (own := "PulseRemoteModel") rfl cmX12_note imX12_note (Or.inl k_1236) (by decide) rfl rfl rfl (Nat.le_of_ble_eq_true rfl) (by decide +kernel : decode cX12_sends 53 = .ok (.invokevirtual 80, 3)) (fun z hz => m_X12_note _ _ _ _ hz) rfl hf (fun z53 hf => ?_)
    refine r_iload hB 0 rfl (by decide +kernel : decode cX12_sends 56 = .ok (.iload 4, 2)) ?_
    refine r_iconst hB (v := 1) (by decide +kernel : decode cX12_sends 58 = .ok (.iconst 1, 1)) (by decide +kernel) ?_
    refine r_icmp_ne hB (tgt := 74) (by decide +kernel : decode cX12_sends 59 = .ok (.if_icmp .ne 15, 3)) (by decide) hf (fun _ hf => ?_) (fun _ hf => ?_)
    · refine r_aload_n hB 1 rfl (by decide +kernel : decode cX12_sends 62 = .ok (.aload_n 0, 1)) rfl ?_
      refine r_gR hB cf12 0 (by decide) (own := "PulseRemoteModel") rfl (Or.inl k_1115) (by decide +kernel) (by decide +kernel : decode cX12_sends 63 = .ok (.getfield 7, 3)) hf (fun x63 hf => ?_)
      refine r_iload_n hB 2 rfl (by decide +kernel : decode cX12_sends 66 = .ok (.iload_n 1, 1)) rfl ?_
      refine r_cSi hB [.int l1] [.ref (b + x63)] (own := "PulseRemoteModel") rfl cmX12_trainAt smX12_trainAt (Or.inl ⟨rfl, k_1370⟩) (by decide) rfl rfl rfl (Nat.le_of_ble_eq_true rfl) (by decide +kernel : decode cX12_sends 67 = .ok (.invokestatic 196, 3)) (fun z hz => m_X12_trainAt _ _ _ _ hz) rfl hf (fun z67 hf => ?_)
      refine r_iload_n hB 4 rfl (by decide +kernel : decode cX12_sends 70 = .ok (.iload_n 3, 1)) rfl ?_
      refine r_iadd hB (by decide +kernel : decode cX12_sends 71 = .ok (.iadd, 1)) ?_
      refine r_iload_n hB 3 rfl (by decide +kernel : decode cX12_sends 72 = .ok (.iload_n 2, 1)) rfl ?_
      refine r_iast hB (by decide +kernel : decode cX12_sends 73 = .ok (.iastore, 1)) hf (fun m73 hf => ?_)
      exact WW.sub [1, 2, 4, 0] rfl (t_X12_sends_74 hB hf hk)
    · exact WW.sub [1, 2, 4, 0] rfl (t_X12_sends_74 hB hf hk)
  · refine r_bipush hB (v := (-3)) (by decide +kernel : decode cX12_sends 49 = .ok (.bipush (-3), 2)) (by decide +kernel) ?_
    obtain rfl := Option.some.inj hf
    obtain ⟨rfl, rfl⟩ := hk
    exact r_iret hB (by decide +kernel : decode cX12_sends 51 = .ok (.ireturn, 1))
set_option maxHeartbeats 4000000 in
set_option maxRecDepth 100000 in
theorem t_X12_sends_23 {X : BX} {D : va_G} {cy : Nat → ClassId} {b : Nat} {r : Option Value} {μ' : MS} (hB : BB X D cy b yX12_sends cX12_sends 6 (some .int) rmX12_sends) {l0 : Nat} {l1 : Int32} {l2 : Int32} {l3 : Int32} {μ : MS} {z : (Int32 × MS)} (hf : f_X12_sends_23 l0 l1 l2 l3 μ = some z) (hk : (fun z : Int32 × MS => r = some (.int z.1) ∧ μ' = z.2) z) : WW X D cy b r μ' 6 0 0 23 [(0, .ref (b + l0)), (1, .int l1), (2, .int l2), (3, .int l3)] [] μ := by
  unfold f_X12_sends_23 at hf
  refine r_iload_n hB 3 rfl (by decide +kernel : decode cX12_sends 23 = .ok (.iload_n 3, 1)) rfl ?_
  refine r_if_le hB (tgt := 31) (by decide +kernel : decode cX12_sends 24 = .ok (.ifCond .le 7, 3)) (by decide) hf (fun _ hf => ?_) (fun _ hf => ?_)
  · refine r_iconst hB (v := 0) (by decide +kernel : decode cX12_sends 31 = .ok (.iconst 0, 1)) (by decide +kernel) ?_
    exact WW.sub [0, 1, 2, 3] rfl (t_X12_sends_32 hB hf hk)
  · refine r_iconst hB (v := 1) (by decide +kernel : decode cX12_sends 27 = .ok (.iconst 1, 1)) (by decide +kernel) ?_
    refine r_goto hB (tgt := 32) (by decide +kernel : decode cX12_sends 28 = .ok (.goto 4, 3)) (by decide) ?_
    exact WW.sub [0, 1, 2, 3] rfl (t_X12_sends_32 hB hf hk)
set_option maxHeartbeats 4000000 in
set_option maxRecDepth 100000 in
theorem t_X12_sends_0 {X : BX} {D : va_G} {cy : Nat → ClassId} {b : Nat} {r : Option Value} {μ' : MS} (hB : BB X D cy b yX12_sends cX12_sends 6 (some .int) rmX12_sends) {l0 : Nat} {l1 : Int32} {l2 : Int32} {μ : MS} {z : (Int32 × MS)} (hf : f_X12_sends l0 l1 l2 μ = some z) (hk : (fun z : Int32 × MS => r = some (.int z.1) ∧ μ' = z.2) z) : WW X D cy b r μ' 6 0 0 0 [(0, .ref (b + l0)), (1, .int l1), (2, .int l2)] [] μ := by
  unfold f_X12_sends at hf
  refine r_aload_n hB 0 rfl (by decide +kernel : decode cX12_sends 0 = .ok (.aload_n 0, 1)) rfl ?_
  refine r_gR hB cf12 0 (by decide) (own := "PulseRemoteModel") rfl (Or.inl k_1115) (by decide +kernel) (by decide +kernel : decode cX12_sends 1 = .ok (.getfield 7, 3)) hf (fun x1 hf => ?_)
  refine r_bipush hB (v := 83) (by decide +kernel : decode cX12_sends 4 = .ok (.bipush 83, 2)) (by decide +kernel) ?_
  refine r_iload_n hB 1 rfl (by decide +kernel : decode cX12_sends 6 = .ok (.iload_n 1, 1)) rfl ?_
  refine r_iadd hB (by decide +kernel : decode cX12_sends 7 = .ok (.iadd, 1)) ?_
  refine r_iald hB (by decide +kernel : decode cX12_sends 8 = .ok (.iaload, 1)) hf (fun x8 hf => ?_)
  refine r_istore_n hB (by decide +kernel : decode cX12_sends 9 = .ok (.istore_n 3, 1)) rfl (by decide) rfl ?_
  refine ww_lv (lv' := [(3, .int x8), (0, .ref (b + l0)), (1, .int l1), (2, .int l2)]) rfl ?_
  refine r_iload_n hB 0 rfl (by decide +kernel : decode cX12_sends 10 = .ok (.iload_n 3, 1)) rfl ?_
  refine r_if_le hB (tgt := 23) (by decide +kernel : decode cX12_sends 11 = .ok (.ifCond .le 12, 3)) (by decide) hf (fun _ hf => ?_) (fun _ hf => ?_)
  · exact WW.sub [1, 2, 3, 0] rfl (t_X12_sends_23 hB hf hk)
  · refine r_iload_n hB 0 rfl (by decide +kernel : decode cX12_sends 14 = .ok (.iload_n 3, 1)) rfl ?_
    refine r_iconst hB (v := 2) (by decide +kernel : decode cX12_sends 15 = .ok (.iconst 2, 1)) (by decide +kernel) ?_
    refine r_irem hB (by decide +kernel : decode cX12_sends 16 = .ok (.irem, 1)) hf (fun v16 hf => ?_)
    refine r_if_ne hB (tgt := 23) (by decide +kernel : decode cX12_sends 17 = .ok (.ifCond .ne 6, 3)) (by decide) hf (fun _ hf => ?_) (fun _ hf => ?_)
    · refine r_bipush hB (v := (-2)) (by decide +kernel : decode cX12_sends 20 = .ok (.bipush (-2), 2)) (by decide +kernel) ?_
      obtain rfl := Option.some.inj hf
      obtain ⟨rfl, rfl⟩ := hk
      exact r_iret hB (by decide +kernel : decode cX12_sends 22 = .ok (.ireturn, 1))
    · exact WW.sub [1, 2, 3, 0] rfl (t_X12_sends_23 hB hf hk)
theorem m_X12_sends (l : Launch) (D : va_G) (cy : Nat → ClassId) (b : Nat) {l0 : Nat} {l1 : Int32} {l2 : Int32} {μ : MS} {z : Int32 × MS} (hf : f_X12_sends l0 l1 l2 μ = some z) : Met l yX12_sends (.code yX12_sends cX12_sends 6 (some .int) :: GW) rmX12_sends (Pw D cy b [.ref (b + l0), .int l1, .int l2] μ) (Qw D cy b (some (.int z.1)) (z.2)) rmX12_sends.cells rmX12_sends.slots (fun q => b ≤ q) :=
  met_of (by decide) (Nat.le_of_ble_eq_true rfl) (fun X hB _ => (t_X12_sends_0 hB hf ⟨rfl, rfl⟩))
-- PulseRemoteModel.send(IIII)I
set_option maxHeartbeats 4000000 in
set_option maxRecDepth 100000 in
theorem t_X12_send_0 {X : BX} {D : va_G} {cy : Nat → ClassId} {b : Nat} {r : Option Value} {μ' : MS} (hB : BB X D cy b yX12_send cX12_send 5 (some .int) rmX12_send) {l0 : Nat} {l1 : Int32} {l2 : Int32} {l3 : Int32} {l4 : Int32} {μ : MS} {z : (Int32 × MS)} (hf : f_X12_send l0 l1 l2 l3 l4 μ = some z) (hk : (fun z : Int32 × MS => r = some (.int z.1) ∧ μ' = z.2) z) : WW X D cy b r μ' 5 0 0 0 [(0, .ref (b + l0)), (1, .int l1), (2, .int l2), (3, .int l3), (4, .int l4)] [] μ := by
  unfold f_X12_send at hf
  refine r_iload_n hB 1 rfl (by decide +kernel : decode cX12_send 0 = .ok (.iload_n 1, 1)) rfl ?_
  refine r_cSi hB [.int l1] [] (own := "PulseRemoteModel") rfl cmX12_isSlot smX12_isSlot (Or.inl ⟨rfl, k_1367⟩) (by decide) rfl rfl rfl (Nat.le_of_ble_eq_true rfl) (by decide +kernel : decode cX12_send 1 = .ok (.invokestatic 199, 3)) (fun z hz => m_X12_isSlot _ _ _ _ hz) rfl hf (fun z1 hf => ?_)
  refine r_if_eq hB (tgt := 35) (by decide +kernel : decode cX12_send 4 = .ok (.ifCond .eq 31, 3)) (by decide) hf (fun _ hf => ?_) (fun _ hf => ?_)
  · refine r_iconst hB (v := (-1)) (by decide +kernel : decode cX12_send 35 = .ok (.iconst (-1), 1)) (by decide +kernel) ?_
    obtain rfl := Option.some.inj hf
    obtain ⟨rfl, rfl⟩ := hk
    exact r_iret hB (by decide +kernel : decode cX12_send 36 = .ok (.ireturn, 1))
  · refine r_aload_n hB 0 rfl (by decide +kernel : decode cX12_send 7 = .ok (.aload_n 0, 1)) rfl ?_
    refine r_iload_n hB 2 rfl (by decide +kernel : decode cX12_send 8 = .ok (.iload_n 2, 1)) rfl ?_
    refine r_cVi hB [.int l2] [] cf12 (own := "PulseRemoteModel") rfl cmX12_isProtocol imX12_isProtocol (Or.inl k_1255) (by decide) rfl rfl rfl (Nat.le_of_ble_eq_true rfl) (by decide +kernel : decode cX12_send 9 = .ok (.invokevirtual 91, 3)) (fun z hz => m_X12_isProtocol _ _ _ _ hz) rfl hf (fun z9 hf => ?_)
    refine r_if_eq hB (tgt := 35) (by decide +kernel : decode cX12_send 12 = .ok (.ifCond .eq 23, 3)) (by decide) hf (fun _ hf => ?_) (fun _ hf => ?_)
    · refine r_iconst hB (v := (-1)) (by decide +kernel : decode cX12_send 35 = .ok (.iconst (-1), 1)) (by decide +kernel) ?_
      obtain rfl := Option.some.inj hf
      obtain ⟨rfl, rfl⟩ := hk
      exact r_iret hB (by decide +kernel : decode cX12_send 36 = .ok (.ireturn, 1))
    · refine r_aload_n hB 0 rfl (by decide +kernel : decode cX12_send 15 = .ok (.aload_n 0, 1)) rfl ?_
      refine r_iload_n hB 2 rfl (by decide +kernel : decode cX12_send 16 = .ok (.iload_n 2, 1)) rfl ?_
      refine r_iload_n hB 3 rfl (by decide +kernel : decode cX12_send 17 = .ok (.iload_n 3, 1)) rfl ?_
      refine r_cVi hB [.int l2, .int l3] [] cf12 (own := "PulseRemoteModel") rfl cmX12_isCode imX12_isCode (Or.inl k_1277) (by decide) rfl rfl rfl (Nat.le_of_ble_eq_true rfl) (by decide +kernel : decode cX12_send 18 = .ok (.invokevirtual 101, 3)) (fun z hz => m_X12_isCode _ _ _ _ hz) rfl hf (fun z18 hf => ?_)
      refine r_if_eq hB (tgt := 35) (by decide +kernel : decode cX12_send 21 = .ok (.ifCond .eq 14, 3)) (by decide) hf (fun _ hf => ?_) (fun _ hf => ?_)
      · refine r_iconst hB (v := (-1)) (by decide +kernel : decode cX12_send 35 = .ok (.iconst (-1), 1)) (by decide +kernel) ?_
        obtain rfl := Option.some.inj hf
        obtain ⟨rfl, rfl⟩ := hk
        exact r_iret hB (by decide +kernel : decode cX12_send 36 = .ok (.ireturn, 1))
      · refine r_iload hB 4 rfl (by decide +kernel : decode cX12_send 24 = .ok (.iload 4, 2)) ?_
        refine r_iconst hB (v := 1) (by decide +kernel : decode cX12_send 26 = .ok (.iconst 1, 1)) (by decide +kernel) ?_
        refine r_ldc hB (v := 60000) (own := "PulseRemoteModel") rfl k_1301 (by decide +kernel : decode cX12_send 27 = .ok (.ldc 116, 2)) ?_
        refine r_cSi hB [.int l4, .int 1, .int 60000] [] (own := "PulseRemoteModel") rfl cmX12_in smX12_in (Or.inl ⟨rfl, k_1233⟩) (by decide) rfl rfl rfl (Nat.le_of_ble_eq_true rfl) (by decide +kernel : decode cX12_send 29 = .ok (.invokestatic 68, 3)) (fun z hz => m_X12_in _ _ _ _ hz) rfl hf (fun z29 hf => ?_)
        refine r_if_ne hB (tgt := 37) (by decide +kernel : decode cX12_send 32 = .ok (.ifCond .ne 5, 3)) (by decide) hf (fun _ hf => ?_) (fun _ hf => ?_)
        · refine r_iconst hB (v := (-1)) (by decide +kernel : decode cX12_send 35 = .ok (.iconst (-1), 1)) (by decide +kernel) ?_
          obtain rfl := Option.some.inj hf
          obtain ⟨rfl, rfl⟩ := hk
          exact r_iret hB (by decide +kernel : decode cX12_send 36 = .ok (.ireturn, 1))
        · refine r_aload_n hB 0 rfl (by decide +kernel : decode cX12_send 37 = .ok (.aload_n 0, 1)) rfl ?_
          refine r_iload_n hB 2 rfl (by decide +kernel : decode cX12_send 38 = .ok (.iload_n 2, 1)) rfl ?_
          refine r_iload_n hB 3 rfl (by decide +kernel : decode cX12_send 39 = .ok (.iload_n 3, 1)) rfl ?_
          refine r_cVv hB [.int l2, .int l3] [] cf12 (own := "PulseRemoteModel") rfl cmX12_makes imX12_makes (Or.inl k_1377) (by decide) rfl rfl rfl (Nat.le_of_ble_eq_true rfl) (by decide +kernel : decode cX12_send 40 = .ok (.invokevirtual 202, 3)) (fun z hz => m_X12_makes _ _ _ _ hz) rfl hf (fun z40 hf => ?_)
          refine r_aload_n hB 0 rfl (by decide +kernel : decode cX12_send 43 = .ok (.aload_n 0, 1)) rfl ?_
          refine r_iload_n hB 1 rfl (by decide +kernel : decode cX12_send 44 = .ok (.iload_n 1, 1)) rfl ?_
          refine r_iload hB 4 rfl (by decide +kernel : decode cX12_send 45 = .ok (.iload 4, 2)) ?_
          refine r_cVi hB [.int l1, .int l4] [] cf12 (own := "PulseRemoteModel") rfl cmX12_sends imX12_sends (Or.inl k_1393) (by decide) rfl rfl rfl (Nat.le_of_ble_eq_true rfl) (by decide +kernel : decode cX12_send 47 = .ok (.invokevirtual 205, 3)) (fun z hz => m_X12_sends _ _ _ _ hz) rfl hf (fun z47 hf => ?_)
          obtain rfl := Option.some.inj hf
          obtain ⟨rfl, rfl⟩ := hk
          exact r_iret hB (by decide +kernel : decode cX12_send 50 = .ok (.ireturn, 1))
theorem m_X12_send (l : Launch) (D : va_G) (cy : Nat → ClassId) (b : Nat) {l0 : Nat} {l1 : Int32} {l2 : Int32} {l3 : Int32} {l4 : Int32} {μ : MS} {z : Int32 × MS} (hf : f_X12_send l0 l1 l2 l3 l4 μ = some z) : Met l yX12_send (.code yX12_send cX12_send 5 (some .int) :: GW) rmX12_send (Pw D cy b [.ref (b + l0), .int l1, .int l2, .int l3, .int l4] μ) (Qw D cy b (some (.int z.1)) (z.2)) rmX12_send.cells rmX12_send.slots (fun q => b ≤ q) :=
  met_of (by decide) (Nat.le_of_ble_eq_true rfl) (fun X hB _ => (t_X12_send_0 hB hf ⟨rfl, rfl⟩))
-- PulseRemoteModel.sendShort(III)I
set_option maxHeartbeats 4000000 in
set_option maxRecDepth 100000 in
theorem t_X12_sendShort_0 {X : BX} {D : va_G} {cy : Nat → ClassId} {b : Nat} {r : Option Value} {μ' : MS} (hB : BB X D cy b yX12_sendShort cX12_sendShort 4 (some .int) rmX12_sendShort) {l0 : Nat} {l1 : Int32} {l2 : Int32} {l3 : Int32} {μ : MS} {z : (Int32 × MS)} (hf : f_X12_sendShort l0 l1 l2 l3 μ = some z) (hk : (fun z : Int32 × MS => r = some (.int z.1) ∧ μ' = z.2) z) : WW X D cy b r μ' 4 0 0 0 [(0, .ref (b + l0)), (1, .int l1), (2, .int l2), (3, .int l3)] [] μ := by
  unfold f_X12_sendShort at hf
  refine r_iload_n hB 1 rfl (by decide +kernel : decode cX12_sendShort 0 = .ok (.iload_n 1, 1)) rfl ?_
  refine r_cSi hB [.int l1] [] (own := "PulseRemoteModel") rfl cmX12_isSlot smX12_isSlot (Or.inl ⟨rfl, k_1367⟩) (by decide) rfl rfl rfl (Nat.le_of_ble_eq_true rfl) (by decide +kernel : decode cX12_sendShort 1 = .ok (.invokestatic 199, 3)) (fun z hz => m_X12_isSlot _ _ _ _ hz) rfl hf (fun z1 hf => ?_)
  refine r_if_eq hB (tgt := 25) (by decide +kernel : decode cX12_sendShort 4 = .ok (.ifCond .eq 21, 3)) (by decide) hf (fun _ hf => ?_) (fun _ hf => ?_)
  · refine r_iconst hB (v := (-1)) (by decide +kernel : decode cX12_sendShort 25 = .ok (.iconst (-1), 1)) (by decide +kernel) ?_
    obtain rfl := Option.some.inj hf
    obtain ⟨rfl, rfl⟩ := hk
    exact r_iret hB (by decide +kernel : decode cX12_sendShort 26 = .ok (.ireturn, 1))
  · refine r_aload_n hB 0 rfl (by decide +kernel : decode cX12_sendShort 7 = .ok (.aload_n 0, 1)) rfl ?_
    refine r_iload_n hB 2 rfl (by decide +kernel : decode cX12_sendShort 8 = .ok (.iload_n 2, 1)) rfl ?_
    refine r_cVi hB [.int l2] [] cf12 (own := "PulseRemoteModel") rfl cmX12_isProtocol imX12_isProtocol (Or.inl k_1255) (by decide) rfl rfl rfl (Nat.le_of_ble_eq_true rfl) (by decide +kernel : decode cX12_sendShort 9 = .ok (.invokevirtual 91, 3)) (fun z hz => m_X12_isProtocol _ _ _ _ hz) rfl hf (fun z9 hf => ?_)
    refine r_if_eq hB (tgt := 25) (by decide +kernel : decode cX12_sendShort 12 = .ok (.ifCond .eq 13, 3)) (by decide) hf (fun _ hf => ?_) (fun _ hf => ?_)
    · refine r_iconst hB (v := (-1)) (by decide +kernel : decode cX12_sendShort 25 = .ok (.iconst (-1), 1)) (by decide +kernel) ?_
      obtain rfl := Option.some.inj hf
      obtain ⟨rfl, rfl⟩ := hk
      exact r_iret hB (by decide +kernel : decode cX12_sendShort 26 = .ok (.ireturn, 1))
    · refine r_iload_n hB 3 rfl (by decide +kernel : decode cX12_sendShort 15 = .ok (.iload_n 3, 1)) rfl ?_
      refine r_iconst hB (v := 1) (by decide +kernel : decode cX12_sendShort 16 = .ok (.iconst 1, 1)) (by decide +kernel) ?_
      refine r_ldc hB (v := 60000) (own := "PulseRemoteModel") rfl k_1301 (by decide +kernel : decode cX12_sendShort 17 = .ok (.ldc 116, 2)) ?_
      refine r_cSi hB [.int l3, .int 1, .int 60000] [] (own := "PulseRemoteModel") rfl cmX12_in smX12_in (Or.inl ⟨rfl, k_1233⟩) (by decide) rfl rfl rfl (Nat.le_of_ble_eq_true rfl) (by decide +kernel : decode cX12_sendShort 19 = .ok (.invokestatic 68, 3)) (fun z hz => m_X12_in _ _ _ _ hz) rfl hf (fun z19 hf => ?_)
      refine r_if_ne hB (tgt := 27) (by decide +kernel : decode cX12_sendShort 22 = .ok (.ifCond .ne 5, 3)) (by decide) hf (fun _ hf => ?_) (fun _ hf => ?_)
      · refine r_iconst hB (v := (-1)) (by decide +kernel : decode cX12_sendShort 25 = .ok (.iconst (-1), 1)) (by decide +kernel) ?_
        obtain rfl := Option.some.inj hf
        obtain ⟨rfl, rfl⟩ := hk
        exact r_iret hB (by decide +kernel : decode cX12_sendShort 26 = .ok (.ireturn, 1))
      · refine r_aload_n hB 0 rfl (by decide +kernel : decode cX12_sendShort 27 = .ok (.aload_n 0, 1)) rfl ?_
        refine r_iload_n hB 2 rfl (by decide +kernel : decode cX12_sendShort 28 = .ok (.iload_n 2, 1)) rfl ?_
        refine r_cVv hB [.int l2] [] cf12 (own := "PulseRemoteModel") rfl cmX12_makesShort imX12_makesShort (Or.inl k_1401) (by decide) rfl rfl rfl (Nat.le_of_ble_eq_true rfl) (by decide +kernel : decode cX12_sendShort 29 = .ok (.invokevirtual 208, 3)) (fun z hz => m_X12_makesShort _ _ _ _ hz) rfl hf (fun z29 hf => ?_)
        refine r_aload_n hB 0 rfl (by decide +kernel : decode cX12_sendShort 32 = .ok (.aload_n 0, 1)) rfl ?_
        refine r_iload_n hB 1 rfl (by decide +kernel : decode cX12_sendShort 33 = .ok (.iload_n 1, 1)) rfl ?_
        refine r_iload_n hB 3 rfl (by decide +kernel : decode cX12_sendShort 34 = .ok (.iload_n 3, 1)) rfl ?_
        refine r_cVi hB [.int l1, .int l3] [] cf12 (own := "PulseRemoteModel") rfl cmX12_sends imX12_sends (Or.inl k_1393) (by decide) rfl rfl rfl (Nat.le_of_ble_eq_true rfl) (by decide +kernel : decode cX12_sendShort 35 = .ok (.invokevirtual 205, 3)) (fun z hz => m_X12_sends _ _ _ _ hz) rfl hf (fun z35 hf => ?_)
        obtain rfl := Option.some.inj hf
        obtain ⟨rfl, rfl⟩ := hk
        exact r_iret hB (by decide +kernel : decode cX12_sendShort 38 = .ok (.ireturn, 1))
theorem m_X12_sendShort (l : Launch) (D : va_G) (cy : Nat → ClassId) (b : Nat) {l0 : Nat} {l1 : Int32} {l2 : Int32} {l3 : Int32} {μ : MS} {z : Int32 × MS} (hf : f_X12_sendShort l0 l1 l2 l3 μ = some z) : Met l yX12_sendShort (.code yX12_sendShort cX12_sendShort 4 (some .int) :: GW) rmX12_sendShort (Pw D cy b [.ref (b + l0), .int l1, .int l2, .int l3] μ) (Qw D cy b (some (.int z.1)) (z.2)) rmX12_sendShort.cells rmX12_sendShort.slots (fun q => b ≤ q) :=
  met_of (by decide) (Nat.le_of_ble_eq_true rfl) (fun X hB _ => (t_X12_sendShort_0 hB hf ⟨rfl, rfl⟩))
-- PulseRemoteModel.clear(I)I
set_option maxHeartbeats 4000000 in
set_option maxRecDepth 100000 in
theorem t_X12_clear_0 {X : BX} {D : va_G} {cy : Nat → ClassId} {b : Nat} {r : Option Value} {μ' : MS} (hB : BB X D cy b yX12_clear cX12_clear 3 (some .int) rmX12_clear) {l0 : Nat} {l1 : Int32} {μ : MS} {z : (Int32 × MS)} (hf : f_X12_clear l0 l1 μ = some z) (hk : (fun z : Int32 × MS => r = some (.int z.1) ∧ μ' = z.2) z) : WW X D cy b r μ' 3 0 0 0 [(0, .ref (b + l0)), (1, .int l1)] [] μ := by
  unfold f_X12_clear at hf
  refine r_iload_n hB 1 rfl (by decide +kernel : decode cX12_clear 0 = .ok (.iload_n 1, 1)) rfl ?_
  refine r_cSi hB [.int l1] [] (own := "PulseRemoteModel") rfl cmX12_isSlot smX12_isSlot (Or.inl ⟨rfl, k_1367⟩) (by decide) rfl rfl rfl (Nat.le_of_ble_eq_true rfl) (by decide +kernel : decode cX12_clear 1 = .ok (.invokestatic 199, 3)) (fun z hz => m_X12_isSlot _ _ _ _ hz) rfl hf (fun z1 hf => ?_)
  refine r_if_ne hB (tgt := 9) (by decide +kernel : decode cX12_clear 4 = .ok (.ifCond .ne 5, 3)) (by decide) hf (fun _ hf => ?_) (fun _ hf => ?_)
  · refine r_iconst hB (v := (-1)) (by decide +kernel : decode cX12_clear 7 = .ok (.iconst (-1), 1)) (by decide +kernel) ?_
    obtain rfl := Option.some.inj hf
    obtain ⟨rfl, rfl⟩ := hk
    exact r_iret hB (by decide +kernel : decode cX12_clear 8 = .ok (.ireturn, 1))
  · refine r_aload_n hB 0 rfl (by decide +kernel : decode cX12_clear 9 = .ok (.aload_n 0, 1)) rfl ?_
    refine r_cVv hB [] [] cf12 (own := "PulseRemoteModel") rfl cmX12_note imX12_note (Or.inl k_1236) (by decide) rfl rfl rfl (Nat.le_of_ble_eq_true rfl) (by decide +kernel : decode cX12_clear 10 = .ok (.invokevirtual 80, 3)) (fun z hz => m_X12_note _ _ _ _ hz) rfl hf (fun z10 hf => ?_)
    refine r_aload_n hB 0 rfl (by decide +kernel : decode cX12_clear 13 = .ok (.aload_n 0, 1)) rfl ?_
    refine r_gR hB cf12 0 (by decide) (own := "PulseRemoteModel") rfl (Or.inl k_1115) (by decide +kernel) (by decide +kernel : decode cX12_clear 14 = .ok (.getfield 7, 3)) hf (fun x14 hf => ?_)
    refine r_bipush hB (v := 83) (by decide +kernel : decode cX12_clear 17 = .ok (.bipush 83, 2)) (by decide +kernel) ?_
    refine r_iload_n hB 1 rfl (by decide +kernel : decode cX12_clear 19 = .ok (.iload_n 1, 1)) rfl ?_
    refine r_iadd hB (by decide +kernel : decode cX12_clear 20 = .ok (.iadd, 1)) ?_
    refine r_iald hB (by decide +kernel : decode cX12_clear 21 = .ok (.iaload, 1)) hf (fun x21 hf => ?_)
    refine r_istore_n hB (by decide +kernel : decode cX12_clear 22 = .ok (.istore_n 2, 1)) rfl (by decide) rfl ?_
    refine ww_lv (lv' := [(2, .int x21), (0, .ref (b + l0)), (1, .int l1)]) rfl ?_
    refine r_aload_n hB 1 rfl (by decide +kernel : decode cX12_clear 23 = .ok (.aload_n 0, 1)) rfl ?_
    refine r_gR hB cf12 0 (by decide) (own := "PulseRemoteModel") rfl (Or.inl k_1115) (by decide +kernel) (by decide +kernel : decode cX12_clear 24 = .ok (.getfield 7, 3)) hf (fun x24 hf => ?_)
    refine r_bipush hB (v := 83) (by decide +kernel : decode cX12_clear 27 = .ok (.bipush 83, 2)) (by decide +kernel) ?_
    refine r_iload_n hB 2 rfl (by decide +kernel : decode cX12_clear 29 = .ok (.iload_n 1, 1)) rfl ?_
    refine r_iadd hB (by decide +kernel : decode cX12_clear 30 = .ok (.iadd, 1)) ?_
    refine r_iconst hB (v := 0) (by decide +kernel : decode cX12_clear 31 = .ok (.iconst 0, 1)) (by decide +kernel) ?_
    refine r_iast hB (by decide +kernel : decode cX12_clear 32 = .ok (.iastore, 1)) hf (fun m32 hf => ?_)
    refine r_iload_n hB 0 rfl (by decide +kernel : decode cX12_clear 33 = .ok (.iload_n 2, 1)) rfl ?_
    obtain rfl := Option.some.inj hf
    obtain ⟨rfl, rfl⟩ := hk
    exact r_iret hB (by decide +kernel : decode cX12_clear 34 = .ok (.ireturn, 1))
theorem m_X12_clear (l : Launch) (D : va_G) (cy : Nat → ClassId) (b : Nat) {l0 : Nat} {l1 : Int32} {μ : MS} {z : Int32 × MS} (hf : f_X12_clear l0 l1 μ = some z) : Met l yX12_clear (.code yX12_clear cX12_clear 3 (some .int) :: GW) rmX12_clear (Pw D cy b [.ref (b + l0), .int l1] μ) (Qw D cy b (some (.int z.1)) (z.2)) rmX12_clear.cells rmX12_clear.slots (fun q => b ≤ q) :=
  met_of (by decide) (Nat.le_of_ble_eq_true rfl) (fun X hB _ => (t_X12_clear_0 hB hf ⟨rfl, rfl⟩))
-- PulseRemoteModel.overlays(I)V
set_option maxHeartbeats 4000000 in
set_option maxRecDepth 100000 in
theorem t_X12_overlays_395 {X : BX} {D : va_G} {cy : Nat → ClassId} {b : Nat} {r : Option Value} {μ' : MS} (hB : BB X D cy b yX12_overlays cX12_overlays 10 none rmX12_overlays) {l0 : Nat} {l2 : Int32} {l4 : Int32} {l5 : Int32} {l6 : Int32} {s0 : Int32} {μ : MS} {z : ((Nat × Int32 × Int32 × Int32 × Int32 × Int32 × MS) ⊕ MS)} (hf : f_X12_overlays_395 l0 l2 l4 l5 l6 s0 μ = some z) (hk : (Sum.elim (fun s : Nat × Int32 × Int32 × Int32 × Int32 × Int32 × MS => WW X D cy b r μ' 10 0 0 145 [(0, .ref (b + s.1)), (2, .int s.2.1), (4, .int s.2.2.1), (5, .int s.2.2.2.1), (6, .int s.2.2.2.2.1), (7, .int s.2.2.2.2.2.1)] [] s.2.2.2.2.2.2) (fun z : MS => r = none ∧ μ' = z)) z) : WW X D cy b r μ' 10 0 0 395 [(0, .ref (b + l0)), (2, .int l2), (4, .int l4), (5, .int l5), (6, .int l6)] [.int s0] μ := by
  unfold f_X12_overlays_395 at hf
  refine r_istore hB (by decide +kernel : decode cX12_overlays 395 = .ok (.istore 7, 2)) (by decide) rfl ?_
  refine ww_lv (lv' := [(7, .int s0), (0, .ref (b + l0)), (2, .int l2), (4, .int l4), (5, .int l5), (6, .int l6)]) rfl ?_
  refine r_goto hB (tgt := 145) (by decide +kernel : decode cX12_overlays 397 = .ok (.goto (-252), 3)) (by decide) ?_
  obtain rfl := Option.some.inj hf
  exact WW.sub [1, 2, 3, 4, 5, 0] rfl hk
set_option maxHeartbeats 4000000 in
set_option maxRecDepth 100000 in
theorem t_X12_overlays_371 {X : BX} {D : va_G} {cy : Nat → ClassId} {b : Nat} {r : Option Value} {μ' : MS} (hB : BB X D cy b yX12_overlays cX12_overlays 10 none rmX12_overlays) {l0 : Nat} {l2 : Int32} {l4 : Int32} {l5 : Int32} {l6 : Int32} {l7 : Int32} {l9 : Int32} {μ : MS} {z : ((Nat × Int32 × Int32 × Int32 × Int32 × Int32 × MS) ⊕ MS)} (hf : f_X12_overlays_371 l0 l2 l4 l5 l6 l7 l9 μ = some z) (hk : (Sum.elim (fun s : Nat × Int32 × Int32 × Int32 × Int32 × Int32 × MS => WW X D cy b r μ' 10 0 0 145 [(0, .ref (b + s.1)), (2, .int s.2.1), (4, .int s.2.2.1), (5, .int s.2.2.2.1), (6, .int s.2.2.2.2.1), (7, .int s.2.2.2.2.2.1)] [] s.2.2.2.2.2.2) (fun z : MS => r = none ∧ μ' = z)) z) : WW X D cy b r μ' 10 0 0 371 [(0, .ref (b + l0)), (2, .int l2), (4, .int l4), (5, .int l5), (6, .int l6), (7, .int l7), (9, .int l9)] [] μ := by
  unfold f_X12_overlays_371 at hf
  refine r_aload_n hB 0 rfl (by decide +kernel : decode cX12_overlays 371 = .ok (.aload_n 0, 1)) rfl ?_
  refine r_gR hB cf12 18 (by decide) (own := "PulseRemoteModel") rfl (Or.inl k_1133) (by decide +kernel) (by decide +kernel : decode cX12_overlays 372 = .ok (.getfield 35, 3)) hf (fun x372 hf => ?_)
  refine r_iload hB 6 rfl (by decide +kernel : decode cX12_overlays 375 = .ok (.iload 9, 2)) ?_
  refine r_iald hB (by decide +kernel : decode cX12_overlays 377 = .ok (.iaload, 1)) hf (fun x377 hf => ?_)
  refine r_iload hB 5 rfl (by decide +kernel : decode cX12_overlays 378 = .ok (.iload 7, 2)) ?_
  refine r_icmp_le hB (tgt := 393) (by decide +kernel : decode cX12_overlays 380 = .ok (.if_icmp .le 13, 3)) (by decide) hf (fun _ hf => ?_) (fun _ hf => ?_)
  · refine r_iload hB 5 rfl (by decide +kernel : decode cX12_overlays 393 = .ok (.iload 7, 2)) ?_
    exact WW.sub [0, 1, 2, 3, 4] rfl (t_X12_overlays_395 hB hf hk)
  · refine r_aload_n hB 0 rfl (by decide +kernel : decode cX12_overlays 383 = .ok (.aload_n 0, 1)) rfl ?_
    refine r_gR hB cf12 18 (by decide) (own := "PulseRemoteModel") rfl (Or.inl k_1133) (by decide +kernel) (by decide +kernel : decode cX12_overlays 384 = .ok (.getfield 35, 3)) hf (fun x384 hf => ?_)
    refine r_iload hB 6 rfl (by decide +kernel : decode cX12_overlays 387 = .ok (.iload 9, 2)) ?_
    refine r_iald hB (by decide +kernel : decode cX12_overlays 389 = .ok (.iaload, 1)) hf (fun x389 hf => ?_)
    refine r_goto hB (tgt := 395) (by decide +kernel : decode cX12_overlays 390 = .ok (.goto 5, 3)) (by decide) ?_
    exact WW.sub [0, 1, 2, 3, 4] rfl (t_X12_overlays_395 hB hf hk)
set_option maxHeartbeats 4000000 in
set_option maxRecDepth 100000 in
theorem t_X12_overlays_337 {X : BX} {D : va_G} {cy : Nat → ClassId} {b : Nat} {r : Option Value} {μ' : MS} (hB : BB X D cy b yX12_overlays cX12_overlays 10 none rmX12_overlays) {l0 : Nat} {l2 : Int32} {l4 : Int32} {l5 : Int32} {l6 : Int32} {l7 : Int32} {l9 : Int32} {μ : MS} {z : ((Nat × Int32 × Int32 × Int32 × Int32 × Int32 × MS) ⊕ MS)} (hf : f_X12_overlays_337 l0 l2 l4 l5 l6 l7 l9 μ = some z) (hk : (Sum.elim (fun s : Nat × Int32 × Int32 × Int32 × Int32 × Int32 × MS => WW X D cy b r μ' 10 0 0 145 [(0, .ref (b + s.1)), (2, .int s.2.1), (4, .int s.2.2.1), (5, .int s.2.2.2.1), (6, .int s.2.2.2.2.1), (7, .int s.2.2.2.2.2.1)] [] s.2.2.2.2.2.2) (fun z : MS => r = none ∧ μ' = z)) z) : WW X D cy b r μ' 10 0 0 337 [(0, .ref (b + l0)), (2, .int l2), (4, .int l4), (5, .int l5), (6, .int l6), (7, .int l7), (9, .int l9)] [] μ := by
  unfold f_X12_overlays_337 at hf
  refine r_aload_n hB 0 rfl (by decide +kernel : decode cX12_overlays 337 = .ok (.aload_n 0, 1)) rfl ?_
  refine r_gR hB cf12 13 (by decide) (own := "PulseRemoteModel") rfl (Or.inl k_1128) (by decide +kernel) (by decide +kernel : decode cX12_overlays 338 = .ok (.getfield 26, 3)) hf (fun x338 hf => ?_)
  refine r_aload_n hB 0 rfl (by decide +kernel : decode cX12_overlays 341 = .ok (.aload_n 0, 1)) rfl ?_
  refine r_gI hB cf12 14 (by decide) (own := "PulseRemoteModel") rfl (Or.inl k_1129) (by decide +kernel) (by decide +kernel : decode cX12_overlays 342 = .ok (.getfield 193, 3)) hf (fun x342 hf => ?_)
  refine r_aload_n hB 0 rfl (by decide +kernel : decode cX12_overlays 345 = .ok (.aload_n 0, 1)) rfl ?_
  refine r_gR hB cf12 18 (by decide) (own := "PulseRemoteModel") rfl (Or.inl k_1133) (by decide +kernel) (by decide +kernel : decode cX12_overlays 346 = .ok (.getfield 35, 3)) hf (fun x346 hf => ?_)
  refine r_iload hB 6 rfl (by decide +kernel : decode cX12_overlays 349 = .ok (.iload 9, 2)) ?_
  refine r_iald hB (by decide +kernel : decode cX12_overlays 351 = .ok (.iaload, 1)) hf (fun x351 hf => ?_)
  refine r_aload_n hB 0 rfl (by decide +kernel : decode cX12_overlays 352 = .ok (.aload_n 0, 1)) rfl ?_
  refine r_gR hB cf12 17 (by decide) (own := "PulseRemoteModel") rfl (Or.inl k_1132) (by decide +kernel) (by decide +kernel : decode cX12_overlays 353 = .ok (.getfield 32, 3)) hf (fun x353 hf => ?_)
  refine r_iload hB 6 rfl (by decide +kernel : decode cX12_overlays 356 = .ok (.iload 9, 2)) ?_
  refine r_iald hB (by decide +kernel : decode cX12_overlays 358 = .ok (.iaload, 1)) hf (fun x358 hf => ?_)
  refine r_isub hB (by decide +kernel : decode cX12_overlays 359 = .ok (.isub, 1)) ?_
  refine r_iast hB (by decide +kernel : decode cX12_overlays 360 = .ok (.iastore, 1)) hf (fun m360 hf => ?_)
  refine r_aload_n hB 0 rfl (by decide +kernel : decode cX12_overlays 361 = .ok (.aload_n 0, 1)) rfl ?_
  refine r_dup hB (by decide +kernel : decode cX12_overlays 362 = .ok (.dup, 1)) rfl ?_
  refine r_gI hB cf12 14 (by decide) (own := "PulseRemoteModel") rfl (Or.inl k_1129) (by decide +kernel) (by decide +kernel : decode cX12_overlays 363 = .ok (.getfield 193, 3)) hf (fun x363 hf => ?_)
  refine r_iconst hB (v := 1) (by decide +kernel : decode cX12_overlays 366 = .ok (.iconst 1, 1)) (by decide +kernel) ?_
  refine r_iadd hB (by decide +kernel : decode cX12_overlays 367 = .ok (.iadd, 1)) ?_
  refine r_pI hB cf12 14 (by decide) (own := "PulseRemoteModel") rfl (Or.inl k_1129) (Or.inl rfl) rfl (by decide +kernel : decode cX12_overlays 368 = .ok (.putfield 193, 3)) hf (fun m368 hf => ?_)
  exact WW.sub [0, 1, 2, 3, 4, 5, 6] rfl (t_X12_overlays_371 hB hf hk)
set_option maxHeartbeats 4000000 in
set_option maxRecDepth 100000 in
theorem t_X12_overlays_301 {X : BX} {D : va_G} {cy : Nat → ClassId} {b : Nat} {r : Option Value} {μ' : MS} (hB : BB X D cy b yX12_overlays cX12_overlays 10 none rmX12_overlays) {l0 : Nat} {l2 : Int32} {l4 : Int32} {l5 : Int32} {l6 : Int32} {l7 : Int32} {l9 : Int32} {μ : MS} {z : ((Nat × Int32 × Int32 × Int32 × Int32 × Int32 × MS) ⊕ MS)} (hf : f_X12_overlays_301 l0 l2 l4 l5 l6 l7 l9 μ = some z) (hk : (Sum.elim (fun s : Nat × Int32 × Int32 × Int32 × Int32 × Int32 × MS => WW X D cy b r μ' 10 0 0 145 [(0, .ref (b + s.1)), (2, .int s.2.1), (4, .int s.2.2.1), (5, .int s.2.2.2.1), (6, .int s.2.2.2.2.1), (7, .int s.2.2.2.2.2.1)] [] s.2.2.2.2.2.2) (fun z : MS => r = none ∧ μ' = z)) z) : WW X D cy b r μ' 10 0 0 301 [(0, .ref (b + l0)), (2, .int l2), (4, .int l4), (5, .int l5), (6, .int l6), (7, .int l7), (9, .int l9)] [] μ := by
  unfold f_X12_overlays_301 at hf
  refine r_aload_n hB 0 rfl (by decide +kernel : decode cX12_overlays 301 = .ok (.aload_n 0, 1)) rfl ?_
  refine r_gI hB cf12 14 (by decide) (own := "PulseRemoteModel") rfl (Or.inl k_1129) (by decide +kernel) (by decide +kernel : decode cX12_overlays 302 = .ok (.getfield 193, 3)) hf (fun x302 hf => ?_)
  refine r_if_le hB (tgt := 337) (by decide +kernel : decode cX12_overlays 305 = .ok (.ifCond .le 32, 3)) (by decide) hf (fun _ hf => ?_) (fun _ hf => ?_)
  · exact WW.sub [0, 1, 2, 3, 4, 5, 6] rfl (t_X12_overlays_337 hB hf hk)
  · refine r_aload_n hB 0 rfl (by decide +kernel : decode cX12_overlays 308 = .ok (.aload_n 0, 1)) rfl ?_
    refine r_gR hB cf12 13 (by decide) (own := "PulseRemoteModel") rfl (Or.inl k_1128) (by decide +kernel) (by decide +kernel : decode cX12_overlays 309 = .ok (.getfield 26, 3)) hf (fun x309 hf => ?_)
    refine r_aload_n hB 0 rfl (by decide +kernel : decode cX12_overlays 312 = .ok (.aload_n 0, 1)) rfl ?_
    refine r_gI hB cf12 14 (by decide) (own := "PulseRemoteModel") rfl (Or.inl k_1129) (by decide +kernel) (by decide +kernel : decode cX12_overlays 313 = .ok (.getfield 193, 3)) hf (fun x313 hf => ?_)
    refine r_aload_n hB 0 rfl (by decide +kernel : decode cX12_overlays 316 = .ok (.aload_n 0, 1)) rfl ?_
    refine r_gR hB cf12 17 (by decide) (own := "PulseRemoteModel") rfl (Or.inl k_1132) (by decide +kernel) (by decide +kernel : decode cX12_overlays 317 = .ok (.getfield 32, 3)) hf (fun x317 hf => ?_)
    refine r_iload hB 6 rfl (by decide +kernel : decode cX12_overlays 320 = .ok (.iload 9, 2)) ?_
    refine r_iald hB (by decide +kernel : decode cX12_overlays 322 = .ok (.iaload, 1)) hf (fun x322 hf => ?_)
    refine r_iload hB 5 rfl (by decide +kernel : decode cX12_overlays 323 = .ok (.iload 7, 2)) ?_
    refine r_isub hB (by decide +kernel : decode cX12_overlays 325 = .ok (.isub, 1)) ?_
    refine r_iast hB (by decide +kernel : decode cX12_overlays 326 = .ok (.iastore, 1)) hf (fun m326 hf => ?_)
    refine r_aload_n hB 0 rfl (by decide +kernel : decode cX12_overlays 327 = .ok (.aload_n 0, 1)) rfl ?_
    refine r_dup hB (by decide +kernel : decode cX12_overlays 328 = .ok (.dup, 1)) rfl ?_
    refine r_gI hB cf12 14 (by decide) (own := "PulseRemoteModel") rfl (Or.inl k_1129) (by decide +kernel) (by decide +kernel : decode cX12_overlays 329 = .ok (.getfield 193, 3)) hf (fun x329 hf => ?_)
    refine r_iconst hB (v := 1) (by decide +kernel : decode cX12_overlays 332 = .ok (.iconst 1, 1)) (by decide +kernel) ?_
    refine r_iadd hB (by decide +kernel : decode cX12_overlays 333 = .ok (.iadd, 1)) ?_
    refine r_pI hB cf12 14 (by decide) (own := "PulseRemoteModel") rfl (Or.inl k_1129) (Or.inl rfl) rfl (by decide +kernel : decode cX12_overlays 334 = .ok (.putfield 193, 3)) hf (fun m334 hf => ?_)
    exact WW.sub [0, 1, 2, 3, 4, 5, 6] rfl (t_X12_overlays_337 hB hf hk)
set_option maxHeartbeats 4000000 in
set_option maxRecDepth 100000 in
theorem t_X12_overlays_296 {X : BX} {D : va_G} {cy : Nat → ClassId} {b : Nat} {r : Option Value} {μ' : MS} (hB : BB X D cy b yX12_overlays cX12_overlays 10 none rmX12_overlays) {l0 : Nat} {l2 : Int32} {l4 : Int32} {l5 : Int32} {l6 : Int32} {l7 : Int32} {l9 : Int32} {s0 : Int32} {s1 : Int32} {s2 : Int32} {s3 : Nat} {μ : MS} {z : ((Nat × Int32 × Int32 × Int32 × Int32 × Int32 × MS) ⊕ MS)} (hf : f_X12_overlays_296 l0 l2 l4 l5 l6 l7 l9 s0 s1 s2 s3 μ = some z) (hk : (Sum.elim (fun s : Nat × Int32 × Int32 × Int32 × Int32 × Int32 × MS => WW X D cy b r μ' 10 0 0 145 [(0, .ref (b + s.1)), (2, .int s.2.1), (4, .int s.2.2.1), (5, .int s.2.2.2.1), (6, .int s.2.2.2.2.1), (7, .int s.2.2.2.2.2.1)] [] s.2.2.2.2.2.2) (fun z : MS => r = none ∧ μ' = z)) z) : WW X D cy b r μ' 10 0 0 296 [(0, .ref (b + l0)), (2, .int l2), (4, .int l4), (5, .int l5), (6, .int l6), (7, .int l7), (9, .int l9)] [.int s0, .int s1, .int s2, .ref (b + s3)] μ := by
  unfold f_X12_overlays_296 at hf
  refine r_iadd hB (by decide +kernel : decode cX12_overlays 296 = .ok (.iadd, 1)) ?_
  refine r_iast hB (by decide +kernel : decode cX12_overlays 297 = .ok (.iastore, 1)) hf (fun m297 hf => ?_)
  refine r_goto hB (tgt := 371) (by decide +kernel : decode cX12_overlays 298 = .ok (.goto 73, 3)) (by decide) ?_
  exact WW.sub [0, 1, 2, 3, 4, 5, 6] rfl (t_X12_overlays_371 hB hf hk)
set_option maxHeartbeats 4000000 in
set_option maxRecDepth 100000 in
theorem t_X12_overlays_236 {X : BX} {D : va_G} {cy : Nat → ClassId} {b : Nat} {r : Option Value} {μ' : MS} (hB : BB X D cy b yX12_overlays cX12_overlays 10 none rmX12_overlays) {l0 : Nat} {l2 : Int32} {l4 : Int32} {l5 : Int32} {l7 : Int32} {l9 : Int32} {s0 : Int32} {s1 : Int32} {μ : MS} {z : ((Nat × Int32 × Int32 × Int32 × Int32 × Int32 × MS) ⊕ MS)} (hf : f_X12_overlays_236 l0 l2 l4 l5 l7 l9 s0 s1 μ = some z) (hk : (Sum.elim (fun s : Nat × Int32 × Int32 × Int32 × Int32 × Int32 × MS => WW X D cy b r μ' 10 0 0 145 [(0, .ref (b + s.1)), (2, .int s.2.1), (4, .int s.2.2.1), (5, .int s.2.2.2.1), (6, .int s.2.2.2.2.1), (7, .int s.2.2.2.2.2.1)] [] s.2.2.2.2.2.2) (fun z : MS => r = none ∧ μ' = z)) z) : WW X D cy b r μ' 10 0 0 236 [(0, .ref (b + l0)), (2, .int l2), (4, .int l4), (5, .int l5), (7, .int l7), (9, .int l9)] [.int s0, .int s1] μ := by
  unfold f_X12_overlays_236 at hf
  refine r_iadd hB (by decide +kernel : decode cX12_overlays 236 = .ok (.iadd, 1)) ?_
  refine r_name hf (fun v237 hf => ?_)
  refine r_istore hB (by decide +kernel : decode cX12_overlays 237 = .ok (.istore 6, 2)) (by decide) rfl ?_
  refine ww_lv (lv' := [(6, .int v237), (0, .ref (b + l0)), (2, .int l2), (4, .int l4), (5, .int l5), (7, .int l7), (9, .int l9)]) rfl ?_
  refine r_aload_n hB 1 rfl (by decide +kernel : decode cX12_overlays 239 = .ok (.aload_n 0, 1)) rfl ?_
  refine r_gI hB cf12 14 (by decide) (own := "PulseRemoteModel") rfl (Or.inl k_1129) (by decide +kernel) (by decide +kernel : decode cX12_overlays 240 = .ok (.getfield 193, 3)) hf (fun x240 hf => ?_)
  refine r_if_le hB (tgt := 301) (by decide +kernel : decode cX12_overlays 243 = .ok (.ifCond .le 58, 3)) (by decide) hf (fun _ hf => ?_) (fun _ hf => ?_)
  · exact WW.sub [1, 2, 3, 4, 0, 5, 6] rfl (t_X12_overlays_301 hB hf hk)
  · refine r_aload_n hB 1 rfl (by decide +kernel : decode cX12_overlays 246 = .ok (.aload_n 0, 1)) rfl ?_
    refine r_gR hB cf12 17 (by decide) (own := "PulseRemoteModel") rfl (Or.inl k_1132) (by decide +kernel) (by decide +kernel : decode cX12_overlays 247 = .ok (.getfield 32, 3)) hf (fun x247 hf => ?_)
    refine r_iload hB 6 rfl (by decide +kernel : decode cX12_overlays 250 = .ok (.iload 9, 2)) ?_
    refine r_iald hB (by decide +kernel : decode cX12_overlays 252 = .ok (.iaload, 1)) hf (fun x252 hf => ?_)
    refine r_iload hB 5 rfl (by decide +kernel : decode cX12_overlays 253 = .ok (.iload 7, 2)) ?_
    refine r_icmp_gt hB (tgt := 301) (by decide +kernel : decode cX12_overlays 255 = .ok (.if_icmp .gt 46, 3)) (by decide) hf (fun _ hf => ?_) (fun _ hf => ?_)
    · exact WW.sub [1, 2, 3, 4, 0, 5, 6] rfl (t_X12_overlays_301 hB hf hk)
    · refine r_aload_n hB 1 rfl (by decide +kernel : decode cX12_overlays 258 = .ok (.aload_n 0, 1)) rfl ?_
      refine r_gR hB cf12 13 (by decide) (own := "PulseRemoteModel") rfl (Or.inl k_1128) (by decide +kernel) (by decide +kernel : decode cX12_overlays 259 = .ok (.getfield 26, 3)) hf (fun x259 hf => ?_)
      refine r_aload_n hB 1 rfl (by decide +kernel : decode cX12_overlays 262 = .ok (.aload_n 0, 1)) rfl ?_
      refine r_gI hB cf12 14 (by decide) (own := "PulseRemoteModel") rfl (Or.inl k_1129) (by decide +kernel) (by decide +kernel : decode cX12_overlays 263 = .ok (.getfield 193, 3)) hf (fun x263 hf => ?_)
      refine r_iconst hB (v := 1) (by decide +kernel : decode cX12_overlays 266 = .ok (.iconst 1, 1)) (by decide +kernel) ?_
      refine r_isub hB (by decide +kernel : decode cX12_overlays 267 = .ok (.isub, 1)) ?_
      refine r_dup2 hB (by decide +kernel : decode cX12_overlays 268 = .ok (.dup2, 1)) rfl rfl ?_
      refine r_iald hB (by decide +kernel : decode cX12_overlays 269 = .ok (.iaload, 1)) hf (fun x269 hf => ?_)
      refine r_aload_n hB 1 rfl (by decide +kernel : decode cX12_overlays 270 = .ok (.aload_n 0, 1)) rfl ?_
      refine r_gR hB cf12 18 (by decide) (own := "PulseRemoteModel") rfl (Or.inl k_1133) (by decide +kernel) (by decide +kernel : decode cX12_overlays 271 = .ok (.getfield 35, 3)) hf (fun x271 hf => ?_)
      refine r_iload hB 6 rfl (by decide +kernel : decode cX12_overlays 274 = .ok (.iload 9, 2)) ?_
      refine r_iald hB (by decide +kernel : decode cX12_overlays 276 = .ok (.iaload, 1)) hf (fun x276 hf => ?_)
      refine r_iload hB 5 rfl (by decide +kernel : decode cX12_overlays 277 = .ok (.iload 7, 2)) ?_
      refine r_icmp_le hB (tgt := 295) (by decide +kernel : decode cX12_overlays 279 = .ok (.if_icmp .le 16, 3)) (by decide) hf (fun _ hf => ?_) (fun _ hf => ?_)
      · refine r_iconst hB (v := 0) (by decide +kernel : decode cX12_overlays 295 = .ok (.iconst 0, 1)) (by decide +kernel) ?_
        exact WW.sub [1, 2, 3, 4, 0, 5, 6] rfl (t_X12_overlays_296 hB hf hk)
      · refine r_aload_n hB 1 rfl (by decide +kernel : decode cX12_overlays 282 = .ok (.aload_n 0, 1)) rfl ?_
        refine r_gR hB cf12 18 (by decide) (own := "PulseRemoteModel") rfl (Or.inl k_1133) (by decide +kernel) (by decide +kernel : decode cX12_overlays 283 = .ok (.getfield 35, 3)) hf (fun x283 hf => ?_)
        refine r_iload hB 6 rfl (by decide +kernel : decode cX12_overlays 286 = .ok (.iload 9, 2)) ?_
        refine r_iald hB (by decide +kernel : decode cX12_overlays 288 = .ok (.iaload, 1)) hf (fun x288 hf => ?_)
        refine r_iload hB 5 rfl (by decide +kernel : decode cX12_overlays 289 = .ok (.iload 7, 2)) ?_
        refine r_isub hB (by decide +kernel : decode cX12_overlays 291 = .ok (.isub, 1)) ?_
        refine r_goto hB (tgt := 296) (by decide +kernel : decode cX12_overlays 292 = .ok (.goto 4, 3)) (by decide) ?_
        exact WW.sub [1, 2, 3, 4, 0, 5, 6] rfl (t_X12_overlays_296 hB hf hk)
set_option maxHeartbeats 4000000 in
set_option maxRecDepth 100000 in
theorem t_X12_overlays_221 {X : BX} {D : va_G} {cy : Nat → ClassId} {b : Nat} {r : Option Value} {μ' : MS} (hB : BB X D cy b yX12_overlays cX12_overlays 10 none rmX12_overlays) {l0 : Nat} {l2 : Int32} {l4 : Int32} {l6 : Int32} {l7 : Int32} {l8 : Int32} {l9 : Int32} {s0 : Int32} {s1 : Int32} {μ : MS} {z : ((Nat × Int32 × Int32 × Int32 × Int32 × Int32 × MS) ⊕ MS)} (hf : f_X12_overlays_221 l0 l2 l4 l6 l7 l8 l9 s0 s1 μ = some z) (hk : (Sum.elim (fun s : Nat × Int32 × Int32 × Int32 × Int32 × Int32 × MS => WW X D cy b r μ' 10 0 0 145 [(0, .ref (b + s.1)), (2, .int s.2.1), (4, .int s.2.2.1), (5, .int s.2.2.2.1), (6, .int s.2.2.2.2.1), (7, .int s.2.2.2.2.2.1)] [] s.2.2.2.2.2.2) (fun z : MS => r = none ∧ μ' = z)) z) : WW X D cy b r μ' 10 0 0 221 [(0, .ref (b + l0)), (2, .int l2), (4, .int l4), (6, .int l6), (7, .int l7), (8, .int l8), (9, .int l9)] [.int s0, .int s1] μ := by
  unfold f_X12_overlays_221 at hf
  refine r_iadd hB (by decide +kernel : decode cX12_overlays 221 = .ok (.iadd, 1)) ?_
  refine r_name hf (fun v222 hf => ?_)
  refine r_istore hB (by decide +kernel : decode cX12_overlays 222 = .ok (.istore 5, 2)) (by decide) rfl ?_
  refine ww_lv (lv' := [(5, .int v222), (0, .ref (b + l0)), (2, .int l2), (4, .int l4), (6, .int l6), (7, .int l7), (8, .int l8), (9, .int l9)]) rfl ?_
  refine r_iload hB 4 rfl (by decide +kernel : decode cX12_overlays 224 = .ok (.iload 6, 2)) ?_
  refine r_iload hB 6 rfl (by decide +kernel : decode cX12_overlays 226 = .ok (.iload 8, 2)) ?_
  refine r_if_eq hB (tgt := 235) (by decide +kernel : decode cX12_overlays 228 = .ok (.ifCond .eq 7, 3)) (by decide) hf (fun _ hf => ?_) (fun _ hf => ?_)
  · refine r_iconst hB (v := 1) (by decide +kernel : decode cX12_overlays 235 = .ok (.iconst 1, 1)) (by decide +kernel) ?_
    exact WW.sub [1, 2, 3, 0, 5, 7] rfl (t_X12_overlays_236 hB hf hk)
  · refine r_iconst hB (v := 0) (by decide +kernel : decode cX12_overlays 231 = .ok (.iconst 0, 1)) (by decide +kernel) ?_
    refine r_goto hB (tgt := 236) (by decide +kernel : decode cX12_overlays 232 = .ok (.goto 4, 3)) (by decide) ?_
    exact WW.sub [1, 2, 3, 0, 5, 7] rfl (t_X12_overlays_236 hB hf hk)
set_option maxHeartbeats 4000000 in
set_option maxRecDepth 100000 in
theorem t_X12_overlays_207 {X : BX} {D : va_G} {cy : Nat → ClassId} {b : Nat} {r : Option Value} {μ' : MS} (hB : BB X D cy b yX12_overlays cX12_overlays 10 none rmX12_overlays) {l0 : Nat} {l2 : Int32} {l4 : Int32} {l5 : Int32} {l6 : Int32} {l7 : Int32} {l8 : Int32} {s0 : Int32} {μ : MS} {z : ((Nat × Int32 × Int32 × Int32 × Int32 × Int32 × MS) ⊕ MS)} (hf : f_X12_overlays_207 l0 l2 l4 l5 l6 l7 l8 s0 μ = some z) (hk : (Sum.elim (fun s : Nat × Int32 × Int32 × Int32 × Int32 × Int32 × MS => WW X D cy b r μ' 10 0 0 145 [(0, .ref (b + s.1)), (2, .int s.2.1), (4, .int s.2.2.1), (5, .int s.2.2.2.1), (6, .int s.2.2.2.2.1), (7, .int s.2.2.2.2.2.1)] [] s.2.2.2.2.2.2) (fun z : MS => r = none ∧ μ' = z)) z) : WW X D cy b r μ' 10 0 0 207 [(0, .ref (b + l0)), (2, .int l2), (4, .int l4), (5, .int l5), (6, .int l6), (7, .int l7), (8, .int l8)] [.int s0] μ := by
  unfold f_X12_overlays_207 at hf
  refine r_istore hB (by decide +kernel : decode cX12_overlays 207 = .ok (.istore 9, 2)) (by decide) rfl ?_
  refine ww_lv (lv' := [(9, .int s0), (0, .ref (b + l0)), (2, .int l2), (4, .int l4), (5, .int l5), (6, .int l6), (7, .int l7), (8, .int l8)]) rfl ?_
  refine r_iload hB 4 rfl (by decide +kernel : decode cX12_overlays 209 = .ok (.iload 5, 2)) ?_
  refine r_iload hB 7 rfl (by decide +kernel : decode cX12_overlays 211 = .ok (.iload 8, 2)) ?_
  refine r_if_eq hB (tgt := 220) (by decide +kernel : decode cX12_overlays 213 = .ok (.ifCond .eq 7, 3)) (by decide) hf (fun _ hf => ?_) (fun _ hf => ?_)
  · refine r_iconst hB (v := 0) (by decide +kernel : decode cX12_overlays 220 = .ok (.iconst 0, 1)) (by decide +kernel) ?_
    exact WW.sub [1, 2, 3, 5, 6, 7, 0] rfl (t_X12_overlays_221 hB hf hk)
  · refine r_iconst hB (v := 1) (by decide +kernel : decode cX12_overlays 216 = .ok (.iconst 1, 1)) (by decide +kernel) ?_
    refine r_goto hB (tgt := 221) (by decide +kernel : decode cX12_overlays 217 = .ok (.goto 4, 3)) (by decide) ?_
    exact WW.sub [1, 2, 3, 5, 6, 7, 0] rfl (t_X12_overlays_221 hB hf hk)
set_option maxHeartbeats 4000000 in
set_option maxRecDepth 100000 in
theorem t_X12_overlays_193 {X : BX} {D : va_G} {cy : Nat → ClassId} {b : Nat} {r : Option Value} {μ' : MS} (hB : BB X D cy b yX12_overlays cX12_overlays 10 none rmX12_overlays) {l0 : Nat} {l2 : Int32} {l4 : Int32} {l5 : Int32} {l6 : Int32} {l7 : Int32} {s0 : Int32} {μ : MS} {z : ((Nat × Int32 × Int32 × Int32 × Int32 × Int32 × MS) ⊕ MS)} (hf : f_X12_overlays_193 l0 l2 l4 l5 l6 l7 s0 μ = some z) (hk : (Sum.elim (fun s : Nat × Int32 × Int32 × Int32 × Int32 × Int32 × MS => WW X D cy b r μ' 10 0 0 145 [(0, .ref (b + s.1)), (2, .int s.2.1), (4, .int s.2.2.1), (5, .int s.2.2.2.1), (6, .int s.2.2.2.2.1), (7, .int s.2.2.2.2.2.1)] [] s.2.2.2.2.2.2) (fun z : MS => r = none ∧ μ' = z)) z) : WW X D cy b r μ' 10 0 0 193 [(0, .ref (b + l0)), (2, .int l2), (4, .int l4), (5, .int l5), (6, .int l6), (7, .int l7)] [.int s0] μ := by
  unfold f_X12_overlays_193 at hf
  refine r_istore hB (by decide +kernel : decode cX12_overlays 193 = .ok (.istore 8, 2)) (by decide) rfl ?_
  refine ww_lv (lv' := [(8, .int s0), (0, .ref (b + l0)), (2, .int l2), (4, .int l4), (5, .int l5), (6, .int l6), (7, .int l7)]) rfl ?_
  refine r_iload hB 0 rfl (by decide +kernel : decode cX12_overlays 195 = .ok (.iload 8, 2)) ?_
  refine r_if_eq hB (tgt := 205) (by decide +kernel : decode cX12_overlays 197 = .ok (.ifCond .eq 8, 3)) (by decide) hf (fun _ hf => ?_) (fun _ hf => ?_)
  · refine r_iload hB 5 rfl (by decide +kernel : decode cX12_overlays 205 = .ok (.iload 6, 2)) ?_
    exact WW.sub [1, 2, 3, 4, 5, 6, 0] rfl (t_X12_overlays_207 hB hf hk)
  · refine r_iload hB 4 rfl (by decide +kernel : decode cX12_overlays 200 = .ok (.iload 5, 2)) ?_
    refine r_goto hB (tgt := 207) (by decide +kernel : decode cX12_overlays 202 = .ok (.goto 5, 3)) (by decide) ?_
    exact WW.sub [1, 2, 3, 4, 5, 6, 0] rfl (t_X12_overlays_207 hB hf hk)
set_option maxHeartbeats 4000000 in
set_option maxRecDepth 100000 in
theorem t_X12_overlays_188 {X : BX} {D : va_G} {cy : Nat → ClassId} {b : Nat} {r : Option Value} {μ' : MS} (hB : BB X D cy b yX12_overlays cX12_overlays 10 none rmX12_overlays) {l0 : Nat} {l2 : Int32} {l4 : Int32} {l5 : Int32} {l6 : Int32} {l7 : Int32} {μ : MS} {z : ((Nat × Int32 × Int32 × Int32 × Int32 × Int32 × MS) ⊕ MS)} (hf : f_X12_overlays_188 l0 l2 l4 l5 l6 l7 μ = some z) (hk : (Sum.elim (fun s : Nat × Int32 × Int32 × Int32 × Int32 × Int32 × MS => WW X D cy b r μ' 10 0 0 145 [(0, .ref (b + s.1)), (2, .int s.2.1), (4, .int s.2.2.1), (5, .int s.2.2.2.1), (6, .int s.2.2.2.2.1), (7, .int s.2.2.2.2.2.1)] [] s.2.2.2.2.2.2) (fun z : MS => r = none ∧ μ' = z)) z) : WW X D cy b r μ' 10 0 0 188 [(0, .ref (b + l0)), (2, .int l2), (4, .int l4), (5, .int l5), (6, .int l6), (7, .int l7)] [] μ := by
  unfold f_X12_overlays_188 at hf
  refine r_iconst hB (v := 1) (by decide +kernel : decode cX12_overlays 188 = .ok (.iconst 1, 1)) (by decide +kernel) ?_
  refine r_goto hB (tgt := 193) (by decide +kernel : decode cX12_overlays 189 = .ok (.goto 4, 3)) (by decide) ?_
  exact WW.sub [0, 1, 2, 3, 4, 5] rfl (t_X12_overlays_193 hB hf hk)
set_option maxHeartbeats 4000000 in
set_option maxRecDepth 100000 in
theorem t_X12_overlays_192 {X : BX} {D : va_G} {cy : Nat → ClassId} {b : Nat} {r : Option Value} {μ' : MS} (hB : BB X D cy b yX12_overlays cX12_overlays 10 none rmX12_overlays) {l0 : Nat} {l2 : Int32} {l4 : Int32} {l5 : Int32} {l6 : Int32} {l7 : Int32} {μ : MS} {z : ((Nat × Int32 × Int32 × Int32 × Int32 × Int32 × MS) ⊕ MS)} (hf : f_X12_overlays_192 l0 l2 l4 l5 l6 l7 μ = some z) (hk : (Sum.elim (fun s : Nat × Int32 × Int32 × Int32 × Int32 × Int32 × MS => WW X D cy b r μ' 10 0 0 145 [(0, .ref (b + s.1)), (2, .int s.2.1), (4, .int s.2.2.1), (5, .int s.2.2.2.1), (6, .int s.2.2.2.2.1), (7, .int s.2.2.2.2.2.1)] [] s.2.2.2.2.2.2) (fun z : MS => r = none ∧ μ' = z)) z) : WW X D cy b r μ' 10 0 0 192 [(0, .ref (b + l0)), (2, .int l2), (4, .int l4), (5, .int l5), (6, .int l6), (7, .int l7)] [] μ := by
  unfold f_X12_overlays_192 at hf
  refine r_iconst hB (v := 0) (by decide +kernel : decode cX12_overlays 192 = .ok (.iconst 0, 1)) (by decide +kernel) ?_
  exact WW.sub [0, 1, 2, 3, 4, 5] rfl (t_X12_overlays_193 hB hf hk)
set_option maxHeartbeats 4000000 in
set_option maxRecDepth 100000 in
theorem t_X12_overlays_158 {X : BX} {D : va_G} {cy : Nat → ClassId} {b : Nat} {r : Option Value} {μ' : MS} (hB : BB X D cy b yX12_overlays cX12_overlays 10 none rmX12_overlays) {l0 : Nat} {l2 : Int32} {l4 : Int32} {l5 : Int32} {l6 : Int32} {l7 : Int32} {μ : MS} {z : ((Nat × Int32 × Int32 × Int32 × Int32 × Int32 × MS) ⊕ MS)} (hf : f_X12_overlays_158 l0 l2 l4 l5 l6 l7 μ = some z) (hk : (Sum.elim (fun s : Nat × Int32 × Int32 × Int32 × Int32 × Int32 × MS => WW X D cy b r μ' 10 0 0 145 [(0, .ref (b + s.1)), (2, .int s.2.1), (4, .int s.2.2.1), (5, .int s.2.2.2.1), (6, .int s.2.2.2.2.1), (7, .int s.2.2.2.2.2.1)] [] s.2.2.2.2.2.2) (fun z : MS => r = none ∧ μ' = z)) z) : WW X D cy b r μ' 10 0 0 158 [(0, .ref (b + l0)), (2, .int l2), (4, .int l4), (5, .int l5), (6, .int l6), (7, .int l7)] [] μ := by
  unfold f_X12_overlays_158 at hf
  refine r_iload hB 4 rfl (by decide +kernel : decode cX12_overlays 158 = .ok (.iload 6, 2)) ?_
  refine r_iload hB 2 rfl (by decide +kernel : decode cX12_overlays 160 = .ok (.iload 4, 2)) ?_
  refine r_icmp_eq hB (tgt := 188) (by decide +kernel : decode cX12_overlays 162 = .ok (.if_icmp .eq 26, 3)) (by decide) hf (fun _ hf => ?_) (fun _ hf => ?_)
  · exact WW.sub [0, 1, 2, 3, 4, 5] rfl (t_X12_overlays_188 hB hf hk)
  · refine r_iload hB 3 rfl (by decide +kernel : decode cX12_overlays 165 = .ok (.iload 5, 2)) ?_
    refine r_iload_n hB 1 rfl (by decide +kernel : decode cX12_overlays 167 = .ok (.iload_n 2, 1)) rfl ?_
    refine r_icmp_ge hB (tgt := 192) (by decide +kernel : decode cX12_overlays 168 = .ok (.if_icmp .ge 24, 3)) (by decide) hf (fun _ hf => ?_) (fun _ hf => ?_)
    · exact WW.sub [0, 1, 2, 3, 4, 5] rfl (t_X12_overlays_192 hB hf hk)
    · refine r_aload_n hB 0 rfl (by decide +kernel : decode cX12_overlays 171 = .ok (.aload_n 0, 1)) rfl ?_
      refine r_gR hB cf12 17 (by decide) (own := "PulseRemoteModel") rfl (Or.inl k_1132) (by decide +kernel) (by decide +kernel : decode cX12_overlays 172 = .ok (.getfield 32, 3)) hf (fun x172 hf => ?_)
      refine r_iload hB 3 rfl (by decide +kernel : decode cX12_overlays 175 = .ok (.iload 5, 2)) ?_
      refine r_iald hB (by decide +kernel : decode cX12_overlays 177 = .ok (.iaload, 1)) hf (fun x177 hf => ?_)
      refine r_aload_n hB 0 rfl (by decide +kernel : decode cX12_overlays 178 = .ok (.aload_n 0, 1)) rfl ?_
      refine r_gR hB cf12 17 (by decide) (own := "PulseRemoteModel") rfl (Or.inl k_1132) (by decide +kernel) (by decide +kernel : decode cX12_overlays 179 = .ok (.getfield 32, 3)) hf (fun x179 hf => ?_)
      refine r_iload hB 4 rfl (by decide +kernel : decode cX12_overlays 182 = .ok (.iload 6, 2)) ?_
      refine r_iald hB (by decide +kernel : decode cX12_overlays 184 = .ok (.iaload, 1)) hf (fun x184 hf => ?_)
      refine r_icmp_gt hB (tgt := 192) (by decide +kernel : decode cX12_overlays 185 = .ok (.if_icmp .gt 7, 3)) (by decide) hf (fun _ hf => ?_) (fun _ hf => ?_)
      · exact WW.sub [0, 1, 2, 3, 4, 5] rfl (t_X12_overlays_192 hB hf hk)
      · exact WW.sub [0, 1, 2, 3, 4, 5] rfl (t_X12_overlays_188 hB hf hk)
set_option maxHeartbeats 4000000 in
set_option maxRecDepth 100000 in
theorem t_X12_overlays_400 {X : BX} {D : va_G} {cy : Nat → ClassId} {b : Nat} {r : Option Value} {μ' : MS} (hB : BB X D cy b yX12_overlays cX12_overlays 10 none rmX12_overlays)  {μ : MS} {z : MS} (hf : f_X12_overlays_400  μ = some z) (hk : (fun z : MS => r = none ∧ μ' = z) z) : WW X D cy b r μ' 10 0 0 400 [] [] μ := by
  unfold f_X12_overlays_400 at hf
  obtain rfl := Option.some.inj hf
  obtain ⟨rfl, rfl⟩ := hk
  exact r_vret hB (by decide +kernel : decode cX12_overlays 400 = .ok (.return_, 1))
set_option maxHeartbeats 4000000 in
set_option maxRecDepth 100000 in
theorem t_X12_overlays_145_b {X : BX} {D : va_G} {cy : Nat → ClassId} {b : Nat} {r : Option Value} {μ' : MS} (hB : BB X D cy b yX12_overlays cX12_overlays 10 none rmX12_overlays) {l0 : Nat} {l2 : Int32} {l4 : Int32} {l5 : Int32} {l6 : Int32} {l7 : Int32} {μ : MS} {z : ((Nat × Int32 × Int32 × Int32 × Int32 × Int32 × MS) ⊕ MS)} (hf : f_X12_overlays_145_b l0 l2 l4 l5 l6 l7 μ = some z) (hk : (Sum.elim (fun s : Nat × Int32 × Int32 × Int32 × Int32 × Int32 × MS => WW X D cy b r μ' 10 0 0 145 [(0, .ref (b + s.1)), (2, .int s.2.1), (4, .int s.2.2.1), (5, .int s.2.2.2.1), (6, .int s.2.2.2.2.1), (7, .int s.2.2.2.2.2.1)] [] s.2.2.2.2.2.2) (fun z : MS => r = none ∧ μ' = z)) z) : WW X D cy b r μ' 10 0 0 145 [(0, .ref (b + l0)), (2, .int l2), (4, .int l4), (5, .int l5), (6, .int l6), (7, .int l7)] [] μ := by
  unfold f_X12_overlays_145_b at hf
  refine r_iload hB 3 rfl (by decide +kernel : decode cX12_overlays 145 = .ok (.iload 5, 2)) ?_
  refine r_iload_n hB 1 rfl (by decide +kernel : decode cX12_overlays 147 = .ok (.iload_n 2, 1)) rfl ?_
  refine r_icmp_lt hB (tgt := 158) (by decide +kernel : decode cX12_overlays 148 = .ok (.if_icmp .lt 10, 3)) (by decide) hf (fun _ hf => ?_) (fun _ hf => ?_)
  · exact WW.sub [0, 1, 2, 3, 4, 5] rfl (t_X12_overlays_158 hB hf hk)
  · refine r_iload hB 4 rfl (by decide +kernel : decode cX12_overlays 151 = .ok (.iload 6, 2)) ?_
    refine r_iload hB 2 rfl (by decide +kernel : decode cX12_overlays 153 = .ok (.iload 4, 2)) ?_
    refine r_icmp_ge hB (tgt := 400) (by decide +kernel : decode cX12_overlays 155 = .ok (.if_icmp .ge 245, 3)) (by decide) hf (fun _ hf => ?_) (fun _ hf => ?_)
    · obtain ⟨_, hx0, rfl⟩ := xr_inv hf
      exact WW.sub [] rfl (t_X12_overlays_400 hB hx0 hk)
    · exact WW.sub [0, 1, 2, 3, 4, 5] rfl (t_X12_overlays_158 hB hf hk)
set_option maxHeartbeats 4000000 in
set_option maxRecDepth 100000 in
theorem t_X12_overlays_145 {X : BX} {D : va_G} {cy : Nat → ClassId} {b : Nat} {r : Option Value} {μ' : MS} (hB : BB X D cy b yX12_overlays cX12_overlays 10 none rmX12_overlays) {l0 : Nat} {l2 : Int32} {l4 : Int32} {l5 : Int32} {l6 : Int32} {l7 : Int32} {μ : MS} {z : MS} (hf : f_X12_overlays_145 l0 l2 l4 l5 l6 l7 μ = some z) (hk : (fun z : MS => r = none ∧ μ' = z) z) : WW X D cy b r μ' 10 0 0 145 [(0, .ref (b + l0)), (2, .int l2), (4, .int l4), (5, .int l5), (6, .int l6), (7, .int l7)] [] μ :=
  lp_ind (P := fun s : Nat × Int32 × Int32 × Int32 × Int32 × Int32 × MS => WW X D cy b r μ' 10 0 0 145 [(0, .ref (b + s.1)), (2, .int s.2.1), (4, .int s.2.2.1), (5, .int s.2.2.2.1), (6, .int s.2.2.2.2.1), (7, .int s.2.2.2.2.2.1)] [] s.2.2.2.2.2.2) (Q := (fun z : MS => r = none ∧ μ' = z)) (fun s z hz hk => t_X12_overlays_145_b hB hz hk) (l0, l2, l4, l5, l6, l7, μ) z hf hk
set_option maxHeartbeats 4000000 in
set_option maxRecDepth 100000 in
theorem t_X12_overlays_131 {X : BX} {D : va_G} {cy : Nat → ClassId} {b : Nat} {r : Option Value} {μ' : MS} (hB : BB X D cy b yX12_overlays cX12_overlays 10 none rmX12_overlays) {l0 : Nat} {l2 : Int32} {l4 : Int32} {μ : MS} {z : MS} (hf : f_X12_overlays_131 l0 l2 l4 μ = some z) (hk : (fun z : MS => r = none ∧ μ' = z) z) : WW X D cy b r μ' 10 0 0 131 [(0, .ref (b + l0)), (2, .int l2), (4, .int l4)] [] μ := by
  unfold f_X12_overlays_131 at hf
  refine r_iconst hB (v := 0) (by decide +kernel : decode cX12_overlays 131 = .ok (.iconst 0, 1)) (by decide +kernel) ?_
  refine r_istore hB (by decide +kernel : decode cX12_overlays 132 = .ok (.istore 5, 2)) (by decide) rfl ?_
  refine ww_lv (lv' := [(5, .int 0), (0, .ref (b + l0)), (2, .int l2), (4, .int l4)]) rfl ?_
  refine r_iload_n hB 2 rfl (by decide +kernel : decode cX12_overlays 134 = .ok (.iload_n 2, 1)) rfl ?_
  refine r_istore hB (by decide +kernel : decode cX12_overlays 135 = .ok (.istore 6, 2)) (by decide) rfl ?_
  refine ww_lv (lv' := [(6, .int l2), (5, .int 0), (0, .ref (b + l0)), (2, .int l2), (4, .int l4)]) rfl ?_
  refine r_iconst hB (v := 0) (by decide +kernel : decode cX12_overlays 137 = .ok (.iconst 0, 1)) (by decide +kernel) ?_
  refine r_istore hB (by decide +kernel : decode cX12_overlays 138 = .ok (.istore 7, 2)) (by decide) rfl ?_
  refine ww_lv (lv' := [(7, .int 0), (6, .int l2), (5, .int 0), (0, .ref (b + l0)), (2, .int l2), (4, .int l4)]) rfl ?_
  refine r_aload_n hB 3 rfl (by decide +kernel : decode cX12_overlays 140 = .ok (.aload_n 0, 1)) rfl ?_
  refine r_iconst hB (v := 0) (by decide +kernel : decode cX12_overlays 141 = .ok (.iconst 0, 1)) (by decide +kernel) ?_
  refine r_pI hB cf12 14 (by decide) (own := "PulseRemoteModel") rfl (Or.inl k_1129) (Or.inl rfl) rfl (by decide +kernel : decode cX12_overlays 142 = .ok (.putfield 193, 3)) hf (fun m142 hf => ?_)
  exact WW.sub [3, 4, 5, 2, 1, 0] rfl (t_X12_overlays_145 hB hf hk)
set_option maxHeartbeats 4000000 in
set_option maxRecDepth 100000 in
theorem t_X12_overlays_115 {X : BX} {D : va_G} {cy : Nat → ClassId} {b : Nat} {r : Option Value} {μ' : MS} (hB : BB X D cy b yX12_overlays cX12_overlays 10 none rmX12_overlays) {l0 : Nat} {l2 : Int32} {l3 : Int32} {l4 : Int32} {l5 : Int32} {μ : MS} {z : ((Nat × Int32 × Int32 × Int32 × Int32 × MS) ⊕ MS)} (hf : f_X12_overlays_115 l0 l2 l3 l4 l5 μ = some z) (hk : (Sum.elim (fun s : Nat × Int32 × Int32 × Int32 × Int32 × MS => WW X D cy b r μ' 10 0 0 72 [(0, .ref (b + s.1)), (2, .int s.2.1), (3, .int s.2.2.1), (4, .int s.2.2.2.1), (5, .int s.2.2.2.2.1)] [] s.2.2.2.2.2) (fun z : MS => r = none ∧ μ' = z)) z) : WW X D cy b r μ' 10 0 0 115 [(0, .ref (b + l0)), (2, .int l2), (3, .int l3), (4, .int l4), (5, .int l5)] [] μ := by
  unfold f_X12_overlays_115 at hf
  refine r_iload_n hB 2 rfl (by decide +kernel : decode cX12_overlays 115 = .ok (.iload_n 3, 1)) rfl ?_
  refine r_aload_n hB 0 rfl (by decide +kernel : decode cX12_overlays 116 = .ok (.aload_n 0, 1)) rfl ?_
  refine r_gR hB cf12 15 (by decide) (own := "PulseRemoteModel") rfl (Or.inl k_1130) (by decide +kernel) (by decide +kernel : decode cX12_overlays 117 = .ok (.getfield 29, 3)) hf (fun x117 hf => ?_)
  refine r_iload hB 4 rfl (by decide +kernel : decode cX12_overlays 120 = .ok (.iload 5, 2)) ?_
  refine r_iald hB (by decide +kernel : decode cX12_overlays 122 = .ok (.iaload, 1)) hf (fun x122 hf => ?_)
  refine r_iadd hB (by decide +kernel : decode cX12_overlays 123 = .ok (.iadd, 1)) ?_
  refine r_name hf (fun v124 hf => ?_)
  refine r_istore_n hB (by decide +kernel : decode cX12_overlays 124 = .ok (.istore_n 3, 1)) rfl (by decide) rfl ?_
  refine ww_lv (lv' := [(3, .int v124), (0, .ref (b + l0)), (2, .int l2), (4, .int l4), (5, .int l5)]) rfl ?_
  refine r_iincB hB 4 rfl (by decide +kernel : decode cX12_overlays 125 = .ok (.iinc 5 1, 3)) (w := 1) (by decide +kernel) (by decide) hf (fun v125 hf => ?_)
  refine ww_lv (lv' := [(5, .int v125), (3, .int v124), (0, .ref (b + l0)), (2, .int l2), (4, .int l4)]) rfl ?_
  refine r_goto hB (tgt := 72) (by decide +kernel : decode cX12_overlays 128 = .ok (.goto (-56), 3)) (by decide) ?_
  obtain rfl := Option.some.inj hf
  exact WW.sub [2, 3, 1, 4, 0] rfl hk
set_option maxHeartbeats 4000000 in
set_option maxRecDepth 100000 in
theorem t_X12_overlays_72_b {X : BX} {D : va_G} {cy : Nat → ClassId} {b : Nat} {r : Option Value} {μ' : MS} (hB : BB X D cy b yX12_overlays cX12_overlays 10 none rmX12_overlays) {l0 : Nat} {l2 : Int32} {l3 : Int32} {l4 : Int32} {l5 : Int32} {μ : MS} {z : ((Nat × Int32 × Int32 × Int32 × Int32 × MS) ⊕ MS)} (hf : f_X12_overlays_72_b l0 l2 l3 l4 l5 μ = some z) (hk : (Sum.elim (fun s : Nat × Int32 × Int32 × Int32 × Int32 × MS => WW X D cy b r μ' 10 0 0 72 [(0, .ref (b + s.1)), (2, .int s.2.1), (3, .int s.2.2.1), (4, .int s.2.2.2.1), (5, .int s.2.2.2.2.1)] [] s.2.2.2.2.2) (fun z : MS => r = none ∧ μ' = z)) z) : WW X D cy b r μ' 10 0 0 72 [(0, .ref (b + l0)), (2, .int l2), (3, .int l3), (4, .int l4), (5, .int l5)] [] μ := by
  unfold f_X12_overlays_72_b at hf
  refine r_iload hB 4 rfl (by decide +kernel : decode cX12_overlays 72 = .ok (.iload 5, 2)) ?_
  refine r_aload_n hB 0 rfl (by decide +kernel : decode cX12_overlays 74 = .ok (.aload_n 0, 1)) rfl ?_
  refine r_gI hB cf12 16 (by decide) (own := "PulseRemoteModel") rfl (Or.inl k_1131) (by decide +kernel) (by decide +kernel : decode cX12_overlays 75 = .ok (.getfield 212, 3)) hf (fun x75 hf => ?_)
  refine r_icmp_ge hB (tgt := 131) (by decide +kernel : decode cX12_overlays 78 = .ok (.if_icmp .ge 53, 3)) (by decide) hf (fun _ hf => ?_) (fun _ hf => ?_)
  · obtain ⟨_, hx0, rfl⟩ := xr_inv hf
    exact WW.sub [0, 1, 3] rfl (t_X12_overlays_131 hB hx0 hk)
  · refine r_iload hB 4 rfl (by decide +kernel : decode cX12_overlays 81 = .ok (.iload 5, 2)) ?_
    refine r_iconst hB (v := 2) (by decide +kernel : decode cX12_overlays 83 = .ok (.iconst 2, 1)) (by decide +kernel) ?_
    refine r_irem hB (by decide +kernel : decode cX12_overlays 84 = .ok (.irem, 1)) hf (fun v84 hf => ?_)
    refine r_if_ne hB (tgt := 115) (by decide +kernel : decode cX12_overlays 85 = .ok (.ifCond .ne 30, 3)) (by decide) hf (fun _ hf => ?_) (fun _ hf => ?_)
    · refine r_aload_n hB 0 rfl (by decide +kernel : decode cX12_overlays 88 = .ok (.aload_n 0, 1)) rfl ?_
      refine r_gR hB cf12 17 (by decide) (own := "PulseRemoteModel") rfl (Or.inl k_1132) (by decide +kernel) (by decide +kernel : decode cX12_overlays 89 = .ok (.getfield 32, 3)) hf (fun x89 hf => ?_)
      refine r_iload hB 3 rfl (by decide +kernel : decode cX12_overlays 92 = .ok (.iload 4, 2)) ?_
      refine r_iload_n hB 2 rfl (by decide +kernel : decode cX12_overlays 94 = .ok (.iload_n 3, 1)) rfl ?_
      refine r_iast hB (by decide +kernel : decode cX12_overlays 95 = .ok (.iastore, 1)) hf (fun m95 hf => ?_)
      refine r_aload_n hB 0 rfl (by decide +kernel : decode cX12_overlays 96 = .ok (.aload_n 0, 1)) rfl ?_
      refine r_gR hB cf12 18 (by decide) (own := "PulseRemoteModel") rfl (Or.inl k_1133) (by decide +kernel) (by decide +kernel : decode cX12_overlays 97 = .ok (.getfield 35, 3)) hf (fun x97 hf => ?_)
      refine r_iload hB 3 rfl (by decide +kernel : decode cX12_overlays 100 = .ok (.iload 4, 2)) ?_
      refine r_iload_n hB 2 rfl (by decide +kernel : decode cX12_overlays 102 = .ok (.iload_n 3, 1)) rfl ?_
      refine r_aload_n hB 0 rfl (by decide +kernel : decode cX12_overlays 103 = .ok (.aload_n 0, 1)) rfl ?_
      refine r_gR hB cf12 15 (by decide) (own := "PulseRemoteModel") rfl (Or.inl k_1130) (by decide +kernel) (by decide +kernel : decode cX12_overlays 104 = .ok (.getfield 29, 3)) hf (fun x104 hf => ?_)
      refine r_iload hB 4 rfl (by decide +kernel : decode cX12_overlays 107 = .ok (.iload 5, 2)) ?_
      refine r_iald hB (by decide +kernel : decode cX12_overlays 109 = .ok (.iaload, 1)) hf (fun x109 hf => ?_)
      refine r_iadd hB (by decide +kernel : decode cX12_overlays 110 = .ok (.iadd, 1)) ?_
      refine r_iast hB (by decide +kernel : decode cX12_overlays 111 = .ok (.iastore, 1)) hf (fun m111 hf => ?_)
      refine r_iincB hB 3 rfl (by decide +kernel : decode cX12_overlays 112 = .ok (.iinc 4 1, 3)) (w := 1) (by decide +kernel) (by decide) hf (fun v112 hf => ?_)
      refine ww_lv (lv' := [(4, .int v112), (0, .ref (b + l0)), (2, .int l2), (3, .int l3), (5, .int l5)]) rfl ?_
      exact WW.sub [1, 2, 3, 0, 4] rfl (t_X12_overlays_115 hB hf hk)
    · exact WW.sub [0, 1, 2, 3, 4] rfl (t_X12_overlays_115 hB hf hk)
set_option maxHeartbeats 4000000 in
set_option maxRecDepth 100000 in
theorem t_X12_overlays_72 {X : BX} {D : va_G} {cy : Nat → ClassId} {b : Nat} {r : Option Value} {μ' : MS} (hB : BB X D cy b yX12_overlays cX12_overlays 10 none rmX12_overlays) {l0 : Nat} {l2 : Int32} {l3 : Int32} {l4 : Int32} {l5 : Int32} {μ : MS} {z : MS} (hf : f_X12_overlays_72 l0 l2 l3 l4 l5 μ = some z) (hk : (fun z : MS => r = none ∧ μ' = z) z) : WW X D cy b r μ' 10 0 0 72 [(0, .ref (b + l0)), (2, .int l2), (3, .int l3), (4, .int l4), (5, .int l5)] [] μ :=
  lp_ind (P := fun s : Nat × Int32 × Int32 × Int32 × Int32 × MS => WW X D cy b r μ' 10 0 0 72 [(0, .ref (b + s.1)), (2, .int s.2.1), (3, .int s.2.2.1), (4, .int s.2.2.2.1), (5, .int s.2.2.2.2.1)] [] s.2.2.2.2.2) (Q := (fun z : MS => r = none ∧ μ' = z)) (fun s z hz hk => t_X12_overlays_72_b hB hz hk) (l0, l2, l3, l4, l5, μ) z hf hk
set_option maxHeartbeats 4000000 in
set_option maxRecDepth 100000 in
theorem t_X12_overlays_64 {X : BX} {D : va_G} {cy : Nat → ClassId} {b : Nat} {r : Option Value} {μ' : MS} (hB : BB X D cy b yX12_overlays cX12_overlays 10 none rmX12_overlays) {l0 : Nat} {l1 : Int32} {l2 : Int32} {μ : MS} {z : MS} (hf : f_X12_overlays_64 l0 l1 l2 μ = some z) (hk : (fun z : MS => r = none ∧ μ' = z) z) : WW X D cy b r μ' 10 0 0 64 [(0, .ref (b + l0)), (1, .int l1), (2, .int l2)] [] μ := by
  unfold f_X12_overlays_64 at hf
  refine r_iload_n hB 2 rfl (by decide +kernel : decode cX12_overlays 64 = .ok (.iload_n 2, 1)) rfl ?_
  refine r_istore hB (by decide +kernel : decode cX12_overlays 65 = .ok (.istore 4, 2)) (by decide) rfl ?_
  refine ww_lv (lv' := [(4, .int l2), (0, .ref (b + l0)), (1, .int l1), (2, .int l2)]) rfl ?_
  refine r_iload_n hB 2 rfl (by decide +kernel : decode cX12_overlays 67 = .ok (.iload_n 1, 1)) rfl ?_
  refine r_istore_n hB (by decide +kernel : decode cX12_overlays 68 = .ok (.istore_n 3, 1)) rfl (by decide) rfl ?_
  refine ww_lv (lv' := [(3, .int l1), (4, .int l2), (0, .ref (b + l0)), (1, .int l1), (2, .int l2)]) rfl ?_
  refine r_iconst hB (v := 0) (by decide +kernel : decode cX12_overlays 69 = .ok (.iconst 0, 1)) (by decide +kernel) ?_
  refine r_istore hB (by decide +kernel : decode cX12_overlays 70 = .ok (.istore 5, 2)) (by decide) rfl ?_
  refine ww_lv (lv' := [(5, .int 0), (3, .int l1), (4, .int l2), (0, .ref (b + l0)), (1, .int l1), (2, .int l2)]) rfl ?_
  exact WW.sub [3, 5, 1, 2, 0] rfl (t_X12_overlays_72 hB hf hk)
set_option maxHeartbeats 4000000 in
set_option maxRecDepth 100000 in
theorem t_X12_overlays_48 {X : BX} {D : va_G} {cy : Nat → ClassId} {b : Nat} {r : Option Value} {μ' : MS} (hB : BB X D cy b yX12_overlays cX12_overlays 10 none rmX12_overlays) {l0 : Nat} {l1 : Int32} {l2 : Int32} {l3 : Int32} {l4 : Int32} {μ : MS} {z : ((Nat × Int32 × Int32 × Int32 × Int32 × MS) ⊕ MS)} (hf : f_X12_overlays_48 l0 l1 l2 l3 l4 μ = some z) (hk : (Sum.elim (fun s : Nat × Int32 × Int32 × Int32 × Int32 × MS => WW X D cy b r μ' 10 0 0 7 [(0, .ref (b + s.1)), (1, .int s.2.1), (2, .int s.2.2.1), (3, .int s.2.2.2.1), (4, .int s.2.2.2.2.1)] [] s.2.2.2.2.2) (fun z : MS => r = none ∧ μ' = z)) z) : WW X D cy b r μ' 10 0 0 48 [(0, .ref (b + l0)), (1, .int l1), (2, .int l2), (3, .int l3), (4, .int l4)] [] μ := by
  unfold f_X12_overlays_48 at hf
  refine r_iload_n hB 3 rfl (by decide +kernel : decode cX12_overlays 48 = .ok (.iload_n 3, 1)) rfl ?_
  refine r_aload_n hB 0 rfl (by decide +kernel : decode cX12_overlays 49 = .ok (.aload_n 0, 1)) rfl ?_
  refine r_gR hB cf12 13 (by decide) (own := "PulseRemoteModel") rfl (Or.inl k_1128) (by decide +kernel) (by decide +kernel : decode cX12_overlays 50 = .ok (.getfield 26, 3)) hf (fun x50 hf => ?_)
  refine r_iload hB 4 rfl (by decide +kernel : decode cX12_overlays 53 = .ok (.iload 4, 2)) ?_
  refine r_iald hB (by decide +kernel : decode cX12_overlays 55 = .ok (.iaload, 1)) hf (fun x55 hf => ?_)
  refine r_iadd hB (by decide +kernel : decode cX12_overlays 56 = .ok (.iadd, 1)) ?_
  refine r_name hf (fun v57 hf => ?_)
  refine r_istore_n hB (by decide +kernel : decode cX12_overlays 57 = .ok (.istore_n 3, 1)) rfl (by decide) rfl ?_
  refine ww_lv (lv' := [(3, .int v57), (0, .ref (b + l0)), (1, .int l1), (2, .int l2), (4, .int l4)]) rfl ?_
  refine r_iincB hB 4 rfl (by decide +kernel : decode cX12_overlays 58 = .ok (.iinc 4 1, 3)) (w := 1) (by decide +kernel) (by decide) hf (fun v58 hf => ?_)
  refine ww_lv (lv' := [(4, .int v58), (3, .int v57), (0, .ref (b + l0)), (1, .int l1), (2, .int l2)]) rfl ?_
  refine r_goto hB (tgt := 7) (by decide +kernel : decode cX12_overlays 61 = .ok (.goto (-54), 3)) (by decide) ?_
  obtain rfl := Option.some.inj hf
  exact WW.sub [2, 3, 4, 1, 0] rfl hk
set_option maxHeartbeats 4000000 in
set_option maxRecDepth 100000 in
theorem t_X12_overlays_7_b {X : BX} {D : va_G} {cy : Nat → ClassId} {b : Nat} {r : Option Value} {μ' : MS} (hB : BB X D cy b yX12_overlays cX12_overlays 10 none rmX12_overlays) {l0 : Nat} {l1 : Int32} {l2 : Int32} {l3 : Int32} {l4 : Int32} {μ : MS} {z : ((Nat × Int32 × Int32 × Int32 × Int32 × MS) ⊕ MS)} (hf : f_X12_overlays_7_b l0 l1 l2 l3 l4 μ = some z) (hk : (Sum.elim (fun s : Nat × Int32 × Int32 × Int32 × Int32 × MS => WW X D cy b r μ' 10 0 0 7 [(0, .ref (b + s.1)), (1, .int s.2.1), (2, .int s.2.2.1), (3, .int s.2.2.2.1), (4, .int s.2.2.2.2.1)] [] s.2.2.2.2.2) (fun z : MS => r = none ∧ μ' = z)) z) : WW X D cy b r μ' 10 0 0 7 [(0, .ref (b + l0)), (1, .int l1), (2, .int l2), (3, .int l3), (4, .int l4)] [] μ := by
  unfold f_X12_overlays_7_b at hf
  refine r_iload hB 4 rfl (by decide +kernel : decode cX12_overlays 7 = .ok (.iload 4, 2)) ?_
  refine r_aload_n hB 0 rfl (by decide +kernel : decode cX12_overlays 9 = .ok (.aload_n 0, 1)) rfl ?_
  refine r_gI hB cf12 14 (by decide) (own := "PulseRemoteModel") rfl (Or.inl k_1129) (by decide +kernel) (by decide +kernel : decode cX12_overlays 10 = .ok (.getfield 193, 3)) hf (fun x10 hf => ?_)
  refine r_icmp_ge hB (tgt := 64) (by decide +kernel : decode cX12_overlays 13 = .ok (.if_icmp .ge 51, 3)) (by decide) hf (fun _ hf => ?_) (fun _ hf => ?_)
  · obtain ⟨_, hx0, rfl⟩ := xr_inv hf
    exact WW.sub [0, 1, 2] rfl (t_X12_overlays_64 hB hx0 hk)
  · refine r_iload hB 4 rfl (by decide +kernel : decode cX12_overlays 16 = .ok (.iload 4, 2)) ?_
    refine r_iconst hB (v := 2) (by decide +kernel : decode cX12_overlays 18 = .ok (.iconst 2, 1)) (by decide +kernel) ?_
    refine r_irem hB (by decide +kernel : decode cX12_overlays 19 = .ok (.irem, 1)) hf (fun v19 hf => ?_)
    refine r_if_ne hB (tgt := 48) (by decide +kernel : decode cX12_overlays 20 = .ok (.ifCond .ne 28, 3)) (by decide) hf (fun _ hf => ?_) (fun _ hf => ?_)
    · refine r_aload_n hB 0 rfl (by decide +kernel : decode cX12_overlays 23 = .ok (.aload_n 0, 1)) rfl ?_
      refine r_gR hB cf12 17 (by decide) (own := "PulseRemoteModel") rfl (Or.inl k_1132) (by decide +kernel) (by decide +kernel : decode cX12_overlays 24 = .ok (.getfield 32, 3)) hf (fun x24 hf => ?_)
      refine r_iload_n hB 2 rfl (by decide +kernel : decode cX12_overlays 27 = .ok (.iload_n 2, 1)) rfl ?_
      refine r_iload_n hB 3 rfl (by decide +kernel : decode cX12_overlays 28 = .ok (.iload_n 3, 1)) rfl ?_
      refine r_iast hB (by decide +kernel : decode cX12_overlays 29 = .ok (.iastore, 1)) hf (fun m29 hf => ?_)
      refine r_aload_n hB 0 rfl (by decide +kernel : decode cX12_overlays 30 = .ok (.aload_n 0, 1)) rfl ?_
      refine r_gR hB cf12 18 (by decide) (own := "PulseRemoteModel") rfl (Or.inl k_1133) (by decide +kernel) (by decide +kernel : decode cX12_overlays 31 = .ok (.getfield 35, 3)) hf (fun x31 hf => ?_)
      refine r_iload_n hB 2 rfl (by decide +kernel : decode cX12_overlays 34 = .ok (.iload_n 2, 1)) rfl ?_
      refine r_iload_n hB 3 rfl (by decide +kernel : decode cX12_overlays 35 = .ok (.iload_n 3, 1)) rfl ?_
      refine r_aload_n hB 0 rfl (by decide +kernel : decode cX12_overlays 36 = .ok (.aload_n 0, 1)) rfl ?_
      refine r_gR hB cf12 13 (by decide) (own := "PulseRemoteModel") rfl (Or.inl k_1128) (by decide +kernel) (by decide +kernel : decode cX12_overlays 37 = .ok (.getfield 26, 3)) hf (fun x37 hf => ?_)
      refine r_iload hB 4 rfl (by decide +kernel : decode cX12_overlays 40 = .ok (.iload 4, 2)) ?_
      refine r_iald hB (by decide +kernel : decode cX12_overlays 42 = .ok (.iaload, 1)) hf (fun x42 hf => ?_)
      refine r_iadd hB (by decide +kernel : decode cX12_overlays 43 = .ok (.iadd, 1)) ?_
      refine r_iast hB (by decide +kernel : decode cX12_overlays 44 = .ok (.iastore, 1)) hf (fun m44 hf => ?_)
      refine r_iincB hB 2 rfl (by decide +kernel : decode cX12_overlays 45 = .ok (.iinc 2 1, 3)) (w := 1) (by decide +kernel) (by decide) hf (fun v45 hf => ?_)
      refine ww_lv (lv' := [(2, .int v45), (0, .ref (b + l0)), (1, .int l1), (3, .int l3), (4, .int l4)]) rfl ?_
      exact WW.sub [1, 2, 0, 3, 4] rfl (t_X12_overlays_48 hB hf hk)
    · exact WW.sub [0, 1, 2, 3, 4] rfl (t_X12_overlays_48 hB hf hk)
set_option maxHeartbeats 4000000 in
set_option maxRecDepth 100000 in
theorem t_X12_overlays_7 {X : BX} {D : va_G} {cy : Nat → ClassId} {b : Nat} {r : Option Value} {μ' : MS} (hB : BB X D cy b yX12_overlays cX12_overlays 10 none rmX12_overlays) {l0 : Nat} {l1 : Int32} {l2 : Int32} {l3 : Int32} {l4 : Int32} {μ : MS} {z : MS} (hf : f_X12_overlays_7 l0 l1 l2 l3 l4 μ = some z) (hk : (fun z : MS => r = none ∧ μ' = z) z) : WW X D cy b r μ' 10 0 0 7 [(0, .ref (b + l0)), (1, .int l1), (2, .int l2), (3, .int l3), (4, .int l4)] [] μ :=
  lp_ind (P := fun s : Nat × Int32 × Int32 × Int32 × Int32 × MS => WW X D cy b r μ' 10 0 0 7 [(0, .ref (b + s.1)), (1, .int s.2.1), (2, .int s.2.2.1), (3, .int s.2.2.2.1), (4, .int s.2.2.2.2.1)] [] s.2.2.2.2.2) (Q := (fun z : MS => r = none ∧ μ' = z)) (fun s z hz hk => t_X12_overlays_7_b hB hz hk) (l0, l1, l2, l3, l4, μ) z hf hk
set_option maxHeartbeats 4000000 in
set_option maxRecDepth 100000 in
theorem t_X12_overlays_0 {X : BX} {D : va_G} {cy : Nat → ClassId} {b : Nat} {r : Option Value} {μ' : MS} (hB : BB X D cy b yX12_overlays cX12_overlays 10 none rmX12_overlays) {l0 : Nat} {l1 : Int32} {μ : MS} {z : MS} (hf : f_X12_overlays l0 l1 μ = some z) (hk : (fun z : MS => r = none ∧ μ' = z) z) : WW X D cy b r μ' 10 0 0 0 [(0, .ref (b + l0)), (1, .int l1)] [] μ := by
  unfold f_X12_overlays at hf
  refine r_iconst hB (v := 0) (by decide +kernel : decode cX12_overlays 0 = .ok (.iconst 0, 1)) (by decide +kernel) ?_
  refine r_istore_n hB (by decide +kernel : decode cX12_overlays 1 = .ok (.istore_n 2, 1)) rfl (by decide) rfl ?_
  refine ww_lv (lv' := [(2, .int 0), (0, .ref (b + l0)), (1, .int l1)]) rfl ?_
  refine r_iconst hB (v := 0) (by decide +kernel : decode cX12_overlays 2 = .ok (.iconst 0, 1)) (by decide +kernel) ?_
  refine r_istore_n hB (by decide +kernel : decode cX12_overlays 3 = .ok (.istore_n 3, 1)) rfl (by decide) rfl ?_
  refine ww_lv (lv' := [(3, .int 0), (2, .int 0), (0, .ref (b + l0)), (1, .int l1)]) rfl ?_
  refine r_iconst hB (v := 0) (by decide +kernel : decode cX12_overlays 4 = .ok (.iconst 0, 1)) (by decide +kernel) ?_
  refine r_istore hB (by decide +kernel : decode cX12_overlays 5 = .ok (.istore 4, 2)) (by decide) rfl ?_
  refine ww_lv (lv' := [(4, .int 0), (3, .int 0), (2, .int 0), (0, .ref (b + l0)), (1, .int l1)]) rfl ?_
  exact WW.sub [3, 4, 2, 1, 0] rfl (t_X12_overlays_7 hB hf hk)
theorem m_X12_overlays (l : Launch) (D : va_G) (cy : Nat → ClassId) (b : Nat) {l0 : Nat} {l1 : Int32} {μ : MS} {z : MS} (hf : f_X12_overlays l0 l1 μ = some z) : Met l yX12_overlays (.code yX12_overlays cX12_overlays 10 none :: GW) rmX12_overlays (Pw D cy b [.ref (b + l0), .int l1] μ) (Qw D cy b (none) (z)) rmX12_overlays.cells rmX12_overlays.slots (fun q => b ≤ q) :=
  met_of (by decide) (Nat.le_of_ble_eq_true rfl) (fun X hB _ => (t_X12_overlays_0 hB hf ⟨rfl, rfl⟩))
-- PulseRemoteModel.overlay(III)I
set_option maxHeartbeats 4000000 in
set_option maxRecDepth 100000 in
theorem t_X12_overlay_238 {X : BX} {D : va_G} {cy : Nat → ClassId} {b : Nat} {r : Option Value} {μ' : MS} (hB : BB X D cy b yX12_overlay cX12_overlay 6 (some .int) rmX12_overlay) {l0 : Nat} {μ : MS} {z : (Int32 × MS)} (hf : f_X12_overlay_238 l0 μ = some z) (hk : (fun z : Int32 × MS => r = some (.int z.1) ∧ μ' = z.2) z) : WW X D cy b r μ' 6 0 0 238 [(0, .ref (b + l0))] [] μ := by
  unfold f_X12_overlay_238 at hf
  refine r_aload_n hB 0 rfl (by decide +kernel : decode cX12_overlay 238 = .ok (.aload_n 0, 1)) rfl ?_
  refine r_gI hB cf12 14 (by decide) (own := "PulseRemoteModel") rfl (Or.inl k_1129) (by decide +kernel) (by decide +kernel : decode cX12_overlay 239 = .ok (.getfield 193, 3)) hf (fun x239 hf => ?_)
  obtain rfl := Option.some.inj hf
  obtain ⟨rfl, rfl⟩ := hk
  exact r_iret hB (by decide +kernel : decode cX12_overlay 242 = .ok (.ireturn, 1))
set_option maxHeartbeats 4000000 in
set_option maxRecDepth 100000 in
theorem t_X12_overlay_204_b {X : BX} {D : va_G} {cy : Nat → ClassId} {b : Nat} {r : Option Value} {μ' : MS} (hB : BB X D cy b yX12_overlay cX12_overlay 6 (some .int) rmX12_overlay) {l0 : Nat} {l1 : Int32} {l5 : Int32} {μ : MS} {z : ((Nat × Int32 × Int32 × MS) ⊕ (Int32 × MS))} (hf : f_X12_overlay_204_b l0 l1 l5 μ = some z) (hk : (Sum.elim (fun s : Nat × Int32 × Int32 × MS => WW X D cy b r μ' 6 0 0 204 [(0, .ref (b + s.1)), (1, .int s.2.1), (5, .int s.2.2.1)] [] s.2.2.2) (fun z : Int32 × MS => r = some (.int z.1) ∧ μ' = z.2)) z) : WW X D cy b r μ' 6 0 0 204 [(0, .ref (b + l0)), (1, .int l1), (5, .int l5)] [] μ := by
  unfold f_X12_overlay_204_b at hf
  refine r_iload hB 2 rfl (by decide +kernel : decode cX12_overlay 204 = .ok (.iload 5, 2)) ?_
  refine r_aload_n hB 0 rfl (by decide +kernel : decode cX12_overlay 206 = .ok (.aload_n 0, 1)) rfl ?_
  refine r_gI hB cf12 14 (by decide) (own := "PulseRemoteModel") rfl (Or.inl k_1129) (by decide +kernel) (by decide +kernel : decode cX12_overlay 207 = .ok (.getfield 193, 3)) hf (fun x207 hf => ?_)
  refine r_icmp_ge hB (tgt := 238) (by decide +kernel : decode cX12_overlay 210 = .ok (.if_icmp .ge 28, 3)) (by decide) hf (fun _ hf => ?_) (fun _ hf => ?_)
  · obtain ⟨_, hx0, rfl⟩ := xr_inv hf
    exact WW.sub [0] rfl (t_X12_overlay_238 hB hx0 hk)
  · refine r_aload_n hB 0 rfl (by decide +kernel : decode cX12_overlay 213 = .ok (.aload_n 0, 1)) rfl ?_
    refine r_gR hB cf12 0 (by decide) (own := "PulseRemoteModel") rfl (Or.inl k_1115) (by decide +kernel) (by decide +kernel : decode cX12_overlay 214 = .ok (.getfield 7, 3)) hf (fun x214 hf => ?_)
    refine r_iload_n hB 1 rfl (by decide +kernel : decode cX12_overlay 217 = .ok (.iload_n 1, 1)) rfl ?_
    refine r_cSi hB [.int l1] [.ref (b + x214)] (own := "PulseRemoteModel") rfl cmX12_trainAt smX12_trainAt (Or.inl ⟨rfl, k_1370⟩) (by decide) rfl rfl rfl (Nat.le_of_ble_eq_true rfl) (by decide +kernel : decode cX12_overlay 218 = .ok (.invokestatic 196, 3)) (fun z hz => m_X12_trainAt _ _ _ _ hz) rfl hf (fun z218 hf => ?_)
    refine r_iload hB 2 rfl (by decide +kernel : decode cX12_overlay 221 = .ok (.iload 5, 2)) ?_
    refine r_iadd hB (by decide +kernel : decode cX12_overlay 223 = .ok (.iadd, 1)) ?_
    refine r_aload_n hB 0 rfl (by decide +kernel : decode cX12_overlay 224 = .ok (.aload_n 0, 1)) rfl ?_
    refine r_gR hB cf12 13 (by decide) (own := "PulseRemoteModel") rfl (Or.inl k_1128) (by decide +kernel) (by decide +kernel : decode cX12_overlay 225 = .ok (.getfield 26, 3)) hf (fun x225 hf => ?_)
    refine r_iload hB 2 rfl (by decide +kernel : decode cX12_overlay 228 = .ok (.iload 5, 2)) ?_
    refine r_iald hB (by decide +kernel : decode cX12_overlay 230 = .ok (.iaload, 1)) hf (fun x230 hf => ?_)
    refine r_iast hB (by decide +kernel : decode cX12_overlay 231 = .ok (.iastore, 1)) hf (fun m231 hf => ?_)
    refine r_iincB hB 2 rfl (by decide +kernel : decode cX12_overlay 232 = .ok (.iinc 5 1, 3)) (w := 1) (by decide +kernel) (by decide) hf (fun v232 hf => ?_)
    refine ww_lv (lv' := [(5, .int v232), (0, .ref (b + l0)), (1, .int l1)]) rfl ?_
    refine r_goto hB (tgt := 204) (by decide +kernel : decode cX12_overlay 235 = .ok (.goto (-31), 3)) (by decide) ?_
    obtain rfl := Option.some.inj hf
    exact WW.sub [1, 2, 0] rfl hk
set_option maxHeartbeats 4000000 in
set_option maxRecDepth 100000 in
theorem t_X12_overlay_204 {X : BX} {D : va_G} {cy : Nat → ClassId} {b : Nat} {r : Option Value} {μ' : MS} (hB : BB X D cy b yX12_overlay cX12_overlay 6 (some .int) rmX12_overlay) {l0 : Nat} {l1 : Int32} {l5 : Int32} {μ : MS} {z : (Int32 × MS)} (hf : f_X12_overlay_204 l0 l1 l5 μ = some z) (hk : (fun z : Int32 × MS => r = some (.int z.1) ∧ μ' = z.2) z) : WW X D cy b r μ' 6 0 0 204 [(0, .ref (b + l0)), (1, .int l1), (5, .int l5)] [] μ :=
  lp_ind (P := fun s : Nat × Int32 × Int32 × MS => WW X D cy b r μ' 6 0 0 204 [(0, .ref (b + s.1)), (1, .int s.2.1), (5, .int s.2.2.1)] [] s.2.2.2) (Q := (fun z : Int32 × MS => r = some (.int z.1) ∧ μ' = z.2)) (fun s z hz hk => t_X12_overlay_204_b hB hz hk) (l0, l1, l5, μ) z hf hk
set_option maxHeartbeats 4000000 in
set_option maxRecDepth 100000 in
theorem t_X12_overlay_176 {X : BX} {D : va_G} {cy : Nat → ClassId} {b : Nat} {r : Option Value} {μ' : MS} (hB : BB X D cy b yX12_overlay cX12_overlay 6 (some .int) rmX12_overlay) {l0 : Nat} {l1 : Int32} {l4 : Int32} {μ : MS} {z : (Int32 × MS)} (hf : f_X12_overlay_176 l0 l1 l4 μ = some z) (hk : (fun z : Int32 × MS => r = some (.int z.1) ∧ μ' = z.2) z) : WW X D cy b r μ' 6 0 0 176 [(0, .ref (b + l0)), (1, .int l1), (4, .int l4)] [] μ := by
  unfold f_X12_overlay_176 at hf
  refine r_iload hB 2 rfl (by decide +kernel : decode cX12_overlay 176 = .ok (.iload 4, 2)) ?_
  refine r_if_eq hB (tgt := 184) (by decide +kernel : decode cX12_overlay 178 = .ok (.ifCond .eq 6, 3)) (by decide) hf (fun _ hf => ?_) (fun _ hf => ?_)
  · refine r_aload_n hB 0 rfl (by decide +kernel : decode cX12_overlay 184 = .ok (.aload_n 0, 1)) rfl ?_
    refine r_cVv hB [] [] cf12 (own := "PulseRemoteModel") rfl cmX12_note imX12_note (Or.inl k_1236) (by decide) rfl rfl rfl (Nat.le_of_ble_eq_true rfl) (by decide +kernel : decode cX12_overlay 185 = .ok (.invokevirtual 80, 3)) (fun z hz => m_X12_note _ _ _ _ hz) rfl hf (fun z185 hf => ?_)
    refine r_aload_n hB 0 rfl (by decide +kernel : decode cX12_overlay 188 = .ok (.aload_n 0, 1)) rfl ?_
    refine r_gR hB cf12 0 (by decide) (own := "PulseRemoteModel") rfl (Or.inl k_1115) (by decide +kernel) (by decide +kernel : decode cX12_overlay 189 = .ok (.getfield 7, 3)) hf (fun x189 hf => ?_)
    refine r_bipush hB (v := 83) (by decide +kernel : decode cX12_overlay 192 = .ok (.bipush 83, 2)) (by decide +kernel) ?_
    refine r_iload_n hB 1 rfl (by decide +kernel : decode cX12_overlay 194 = .ok (.iload_n 1, 1)) rfl ?_
    refine r_iadd hB (by decide +kernel : decode cX12_overlay 195 = .ok (.iadd, 1)) ?_
    refine r_aload_n hB 0 rfl (by decide +kernel : decode cX12_overlay 196 = .ok (.aload_n 0, 1)) rfl ?_
    refine r_gI hB cf12 14 (by decide) (own := "PulseRemoteModel") rfl (Or.inl k_1129) (by decide +kernel) (by decide +kernel : decode cX12_overlay 197 = .ok (.getfield 193, 3)) hf (fun x197 hf => ?_)
    refine r_iast hB (by decide +kernel : decode cX12_overlay 200 = .ok (.iastore, 1)) hf (fun m200 hf => ?_)
    refine r_iconst hB (v := 0) (by decide +kernel : decode cX12_overlay 201 = .ok (.iconst 0, 1)) (by decide +kernel) ?_
    refine r_istore hB (by decide +kernel : decode cX12_overlay 202 = .ok (.istore 5, 2)) (by decide) rfl ?_
    refine ww_lv (lv' := [(5, .int 0), (0, .ref (b + l0)), (1, .int l1), (4, .int l4)]) rfl ?_
    exact WW.sub [1, 2, 0] rfl (t_X12_overlay_204 hB hf hk)
  · refine r_bipush hB (v := (-3)) (by decide +kernel : decode cX12_overlay 181 = .ok (.bipush (-3), 2)) (by decide +kernel) ?_
    obtain rfl := Option.some.inj hf
    obtain ⟨rfl, rfl⟩ := hk
    exact r_iret hB (by decide +kernel : decode cX12_overlay 183 = .ok (.ireturn, 1))
set_option maxHeartbeats 4000000 in
set_option maxRecDepth 100000 in
theorem t_X12_overlay_168 {X : BX} {D : va_G} {cy : Nat → ClassId} {b : Nat} {r : Option Value} {μ' : MS} (hB : BB X D cy b yX12_overlay cX12_overlay 6 (some .int) rmX12_overlay) {l0 : Nat} {l1 : Int32} {l5 : Int32} {s0 : Int32} {μ : MS} {z : ((Nat × Int32 × Int32 × Int32 × MS) ⊕ (Int32 × MS))} (hf : f_X12_overlay_168 l0 l1 l5 s0 μ = some z) (hk : (Sum.elim (fun s : Nat × Int32 × Int32 × Int32 × MS => WW X D cy b r μ' 6 0 0 137 [(0, .ref (b + s.1)), (1, .int s.2.1), (4, .int s.2.2.1), (5, .int s.2.2.2.1)] [] s.2.2.2.2) (fun z : Int32 × MS => r = some (.int z.1) ∧ μ' = z.2)) z) : WW X D cy b r μ' 6 0 0 168 [(0, .ref (b + l0)), (1, .int l1), (5, .int l5)] [.int s0] μ := by
  unfold f_X12_overlay_168 at hf
  refine r_istore hB (by decide +kernel : decode cX12_overlay 168 = .ok (.istore 4, 2)) (by decide) rfl ?_
  refine ww_lv (lv' := [(4, .int s0), (0, .ref (b + l0)), (1, .int l1), (5, .int l5)]) rfl ?_
  refine r_iincB hB 3 rfl (by decide +kernel : decode cX12_overlay 170 = .ok (.iinc 5 1, 3)) (w := 1) (by decide +kernel) (by decide) hf (fun v170 hf => ?_)
  refine ww_lv (lv' := [(5, .int v170), (4, .int s0), (0, .ref (b + l0)), (1, .int l1)]) rfl ?_
  refine r_goto hB (tgt := 137) (by decide +kernel : decode cX12_overlay 173 = .ok (.goto (-36), 3)) (by decide) ?_
  obtain rfl := Option.some.inj hf
  exact WW.sub [2, 3, 1, 0] rfl hk
set_option maxHeartbeats 4000000 in
set_option maxRecDepth 100000 in
theorem t_X12_overlay_163 {X : BX} {D : va_G} {cy : Nat → ClassId} {b : Nat} {r : Option Value} {μ' : MS} (hB : BB X D cy b yX12_overlay cX12_overlay 6 (some .int) rmX12_overlay) {l0 : Nat} {l1 : Int32} {l5 : Int32} {μ : MS} {z : ((Nat × Int32 × Int32 × Int32 × MS) ⊕ (Int32 × MS))} (hf : f_X12_overlay_163 l0 l1 l5 μ = some z) (hk : (Sum.elim (fun s : Nat × Int32 × Int32 × Int32 × MS => WW X D cy b r μ' 6 0 0 137 [(0, .ref (b + s.1)), (1, .int s.2.1), (4, .int s.2.2.1), (5, .int s.2.2.2.1)] [] s.2.2.2.2) (fun z : Int32 × MS => r = some (.int z.1) ∧ μ' = z.2)) z) : WW X D cy b r μ' 6 0 0 163 [(0, .ref (b + l0)), (1, .int l1), (5, .int l5)] [] μ := by
  unfold f_X12_overlay_163 at hf
  refine r_iconst hB (v := 1) (by decide +kernel : decode cX12_overlay 163 = .ok (.iconst 1, 1)) (by decide +kernel) ?_
  refine r_goto hB (tgt := 168) (by decide +kernel : decode cX12_overlay 164 = .ok (.goto 4, 3)) (by decide) ?_
  exact WW.sub [0, 1, 2] rfl (t_X12_overlay_168 hB hf hk)
set_option maxHeartbeats 4000000 in
set_option maxRecDepth 100000 in
theorem t_X12_overlay_137_b {X : BX} {D : va_G} {cy : Nat → ClassId} {b : Nat} {r : Option Value} {μ' : MS} (hB : BB X D cy b yX12_overlay cX12_overlay 6 (some .int) rmX12_overlay) {l0 : Nat} {l1 : Int32} {l4 : Int32} {l5 : Int32} {μ : MS} {z : ((Nat × Int32 × Int32 × Int32 × MS) ⊕ (Int32 × MS))} (hf : f_X12_overlay_137_b l0 l1 l4 l5 μ = some z) (hk : (Sum.elim (fun s : Nat × Int32 × Int32 × Int32 × MS => WW X D cy b r μ' 6 0 0 137 [(0, .ref (b + s.1)), (1, .int s.2.1), (4, .int s.2.2.1), (5, .int s.2.2.2.1)] [] s.2.2.2.2) (fun z : Int32 × MS => r = some (.int z.1) ∧ μ' = z.2)) z) : WW X D cy b r μ' 6 0 0 137 [(0, .ref (b + l0)), (1, .int l1), (4, .int l4), (5, .int l5)] [] μ := by
  unfold f_X12_overlay_137_b at hf
  refine r_iload hB 3 rfl (by decide +kernel : decode cX12_overlay 137 = .ok (.iload 5, 2)) ?_
  refine r_aload_n hB 0 rfl (by decide +kernel : decode cX12_overlay 139 = .ok (.aload_n 0, 1)) rfl ?_
  refine r_gI hB cf12 14 (by decide) (own := "PulseRemoteModel") rfl (Or.inl k_1129) (by decide +kernel) (by decide +kernel : decode cX12_overlay 140 = .ok (.getfield 193, 3)) hf (fun x140 hf => ?_)
  refine r_icmp_ge hB (tgt := 176) (by decide +kernel : decode cX12_overlay 143 = .ok (.if_icmp .ge 33, 3)) (by decide) hf (fun _ hf => ?_) (fun _ hf => ?_)
  · obtain ⟨_, hx0, rfl⟩ := xr_inv hf
    exact WW.sub [0, 1, 2] rfl (t_X12_overlay_176 hB hx0 hk)
  · refine r_iload hB 2 rfl (by decide +kernel : decode cX12_overlay 146 = .ok (.iload 4, 2)) ?_
    refine r_if_ne hB (tgt := 163) (by decide +kernel : decode cX12_overlay 148 = .ok (.ifCond .ne 15, 3)) (by decide) hf (fun _ hf => ?_) (fun _ hf => ?_)
    · refine r_aload_n hB 0 rfl (by decide +kernel : decode cX12_overlay 151 = .ok (.aload_n 0, 1)) rfl ?_
      refine r_gR hB cf12 13 (by decide) (own := "PulseRemoteModel") rfl (Or.inl k_1128) (by decide +kernel) (by decide +kernel : decode cX12_overlay 152 = .ok (.getfield 26, 3)) hf (fun x152 hf => ?_)
      refine r_iload hB 3 rfl (by decide +kernel : decode cX12_overlay 155 = .ok (.iload 5, 2)) ?_
      refine r_iald hB (by decide +kernel : decode cX12_overlay 157 = .ok (.iaload, 1)) hf (fun x157 hf => ?_)
      refine r_ldc hB (v := 60000) (own := "PulseRemoteModel") rfl k_1301 (by decide +kernel : decode cX12_overlay 158 = .ok (.ldc 116, 2)) ?_
      refine r_icmp_le hB (tgt := 167) (by decide +kernel : decode cX12_overlay 160 = .ok (.if_icmp .le 7, 3)) (by decide) hf (fun _ hf => ?_) (fun _ hf => ?_)
      · refine r_iconst hB (v := 0) (by decide +kernel : decode cX12_overlay 167 = .ok (.iconst 0, 1)) (by decide +kernel) ?_
        exact WW.sub [0, 1, 3] rfl (t_X12_overlay_168 hB hf hk)
      · exact WW.sub [0, 1, 3] rfl (t_X12_overlay_163 hB hf hk)
    · exact WW.sub [0, 1, 3] rfl (t_X12_overlay_163 hB hf hk)
set_option maxHeartbeats 4000000 in
set_option maxRecDepth 100000 in
theorem t_X12_overlay_137 {X : BX} {D : va_G} {cy : Nat → ClassId} {b : Nat} {r : Option Value} {μ' : MS} (hB : BB X D cy b yX12_overlay cX12_overlay 6 (some .int) rmX12_overlay) {l0 : Nat} {l1 : Int32} {l4 : Int32} {l5 : Int32} {μ : MS} {z : (Int32 × MS)} (hf : f_X12_overlay_137 l0 l1 l4 l5 μ = some z) (hk : (fun z : Int32 × MS => r = some (.int z.1) ∧ μ' = z.2) z) : WW X D cy b r μ' 6 0 0 137 [(0, .ref (b + l0)), (1, .int l1), (4, .int l4), (5, .int l5)] [] μ :=
  lp_ind (P := fun s : Nat × Int32 × Int32 × Int32 × MS => WW X D cy b r μ' 6 0 0 137 [(0, .ref (b + s.1)), (1, .int s.2.1), (4, .int s.2.2.1), (5, .int s.2.2.2.1)] [] s.2.2.2.2) (Q := (fun z : Int32 × MS => r = some (.int z.1) ∧ μ' = z.2)) (fun s z hz hk => t_X12_overlay_137_b hB hz hk) (l0, l1, l4, l5, μ) z hf hk
set_option maxHeartbeats 4000000 in
set_option maxRecDepth 100000 in
theorem t_X12_overlay_132 {X : BX} {D : va_G} {cy : Nat → ClassId} {b : Nat} {r : Option Value} {μ' : MS} (hB : BB X D cy b yX12_overlay cX12_overlay 6 (some .int) rmX12_overlay) {l0 : Nat} {l1 : Int32} {s0 : Int32} {μ : MS} {z : (Int32 × MS)} (hf : f_X12_overlay_132 l0 l1 s0 μ = some z) (hk : (fun z : Int32 × MS => r = some (.int z.1) ∧ μ' = z.2) z) : WW X D cy b r μ' 6 0 0 132 [(0, .ref (b + l0)), (1, .int l1)] [.int s0] μ := by
  unfold f_X12_overlay_132 at hf
  refine r_istore hB (by decide +kernel : decode cX12_overlay 132 = .ok (.istore 4, 2)) (by decide) rfl ?_
  refine ww_lv (lv' := [(4, .int s0), (0, .ref (b + l0)), (1, .int l1)]) rfl ?_
  refine r_iconst hB (v := 0) (by decide +kernel : decode cX12_overlay 134 = .ok (.iconst 0, 1)) (by decide +kernel) ?_
  refine r_istore hB (by decide +kernel : decode cX12_overlay 135 = .ok (.istore 5, 2)) (by decide) rfl ?_
  refine ww_lv (lv' := [(5, .int 0), (4, .int s0), (0, .ref (b + l0)), (1, .int l1)]) rfl ?_
  exact WW.sub [2, 3, 1, 0] rfl (t_X12_overlay_137 hB hf hk)
set_option maxHeartbeats 4000000 in
set_option maxRecDepth 100000 in
theorem t_X12_overlay_107 {X : BX} {D : va_G} {cy : Nat → ClassId} {b : Nat} {r : Option Value} {μ' : MS} (hB : BB X D cy b yX12_overlay cX12_overlay 6 (some .int) rmX12_overlay) {l0 : Nat} {l1 : Int32} {l3 : Int32} {μ : MS} {z : (Int32 × MS)} (hf : f_X12_overlay_107 l0 l1 l3 μ = some z) (hk : (fun z : Int32 × MS => r = some (.int z.1) ∧ μ' = z.2) z) : WW X D cy b r μ' 6 0 0 107 [(0, .ref (b + l0)), (1, .int l1), (3, .int l3)] [] μ := by
  unfold f_X12_overlay_107 at hf
  refine r_aload_n hB 0 rfl (by decide +kernel : decode cX12_overlay 107 = .ok (.aload_n 0, 1)) rfl ?_
  refine r_iload_n hB 1 rfl (by decide +kernel : decode cX12_overlay 108 = .ok (.iload_n 1, 1)) rfl ?_
  refine r_cVv hB [.int l1] [] cf12 (own := "PulseRemoteModel") rfl cmX12_looksAt imX12_looksAt (Or.inl k_1413) (by decide) rfl rfl rfl (Nat.le_of_ble_eq_true rfl) (by decide +kernel : decode cX12_overlay 109 = .ok (.invokevirtual 215, 3)) (fun z hz => m_X12_looksAt _ _ _ _ hz) rfl hf (fun z109 hf => ?_)
  refine r_aload_n hB 0 rfl (by decide +kernel : decode cX12_overlay 112 = .ok (.aload_n 0, 1)) rfl ?_
  refine r_iload_n hB 2 rfl (by decide +kernel : decode cX12_overlay 113 = .ok (.iload_n 3, 1)) rfl ?_
  refine r_cVv hB [.int l3] [] cf12 (own := "PulseRemoteModel") rfl cmX12_overlays imX12_overlays (Or.inl k_1417) (by decide) rfl rfl rfl (Nat.le_of_ble_eq_true rfl) (by decide +kernel : decode cX12_overlay 114 = .ok (.invokevirtual 218, 3)) (fun z hz => m_X12_overlays _ _ _ _ hz) rfl hf (fun z114 hf => ?_)
  refine r_aload_n hB 0 rfl (by decide +kernel : decode cX12_overlay 117 = .ok (.aload_n 0, 1)) rfl ?_
  refine r_gI hB cf12 14 (by decide) (own := "PulseRemoteModel") rfl (Or.inl k_1129) (by decide +kernel) (by decide +kernel : decode cX12_overlay 118 = .ok (.getfield 193, 3)) hf (fun x118 hf => ?_)
  refine r_sipush hB (v := 200) (by decide +kernel : decode cX12_overlay 121 = .ok (.sipush 200, 3)) (by decide +kernel) ?_
  refine r_icmp_le hB (tgt := 131) (by decide +kernel : decode cX12_overlay 124 = .ok (.if_icmp .le 7, 3)) (by decide) hf (fun _ hf => ?_) (fun _ hf => ?_)
  · refine r_iconst hB (v := 0) (by decide +kernel : decode cX12_overlay 131 = .ok (.iconst 0, 1)) (by decide +kernel) ?_
    exact WW.sub [0, 1] rfl (t_X12_overlay_132 hB hf hk)
  · refine r_iconst hB (v := 1) (by decide +kernel : decode cX12_overlay 127 = .ok (.iconst 1, 1)) (by decide +kernel) ?_
    refine r_goto hB (tgt := 132) (by decide +kernel : decode cX12_overlay 128 = .ok (.goto 4, 3)) (by decide) ?_
    exact WW.sub [0, 1] rfl (t_X12_overlay_132 hB hf hk)
set_option maxHeartbeats 4000000 in
set_option maxRecDepth 100000 in
theorem t_X12_overlay_78_b {X : BX} {D : va_G} {cy : Nat → ClassId} {b : Nat} {r : Option Value} {μ' : MS} (hB : BB X D cy b yX12_overlay cX12_overlay 6 (some .int) rmX12_overlay) {l0 : Nat} {l1 : Int32} {l3 : Int32} {l4 : Int32} {μ : MS} {z : ((Nat × Int32 × Int32 × Int32 × MS) ⊕ (Int32 × MS))} (hf : f_X12_overlay_78_b l0 l1 l3 l4 μ = some z) (hk : (Sum.elim (fun s : Nat × Int32 × Int32 × Int32 × MS => WW X D cy b r μ' 6 0 0 78 [(0, .ref (b + s.1)), (1, .int s.2.1), (3, .int s.2.2.1), (4, .int s.2.2.2.1)] [] s.2.2.2.2) (fun z : Int32 × MS => r = some (.int z.1) ∧ μ' = z.2)) z) : WW X D cy b r μ' 6 0 0 78 [(0, .ref (b + l0)), (1, .int l1), (3, .int l3), (4, .int l4)] [] μ := by
  unfold f_X12_overlay_78_b at hf
  refine r_iload hB 3 rfl (by decide +kernel : decode cX12_overlay 78 = .ok (.iload 4, 2)) ?_
  refine r_aload_n hB 0 rfl (by decide +kernel : decode cX12_overlay 80 = .ok (.aload_n 0, 1)) rfl ?_
  refine r_gI hB cf12 14 (by decide) (own := "PulseRemoteModel") rfl (Or.inl k_1129) (by decide +kernel) (by decide +kernel : decode cX12_overlay 81 = .ok (.getfield 193, 3)) hf (fun x81 hf => ?_)
  refine r_icmp_ge hB (tgt := 107) (by decide +kernel : decode cX12_overlay 84 = .ok (.if_icmp .ge 23, 3)) (by decide) hf (fun _ hf => ?_) (fun _ hf => ?_)
  · obtain ⟨_, hx0, rfl⟩ := xr_inv hf
    exact WW.sub [0, 1, 2] rfl (t_X12_overlay_107 hB hx0 hk)
  · refine r_aload_n hB 0 rfl (by decide +kernel : decode cX12_overlay 87 = .ok (.aload_n 0, 1)) rfl ?_
    refine r_gR hB cf12 15 (by decide) (own := "PulseRemoteModel") rfl (Or.inl k_1130) (by decide +kernel) (by decide +kernel : decode cX12_overlay 88 = .ok (.getfield 29, 3)) hf (fun x88 hf => ?_)
    refine r_iload hB 3 rfl (by decide +kernel : decode cX12_overlay 91 = .ok (.iload 4, 2)) ?_
    refine r_aload_n hB 0 rfl (by decide +kernel : decode cX12_overlay 93 = .ok (.aload_n 0, 1)) rfl ?_
    refine r_gR hB cf12 13 (by decide) (own := "PulseRemoteModel") rfl (Or.inl k_1128) (by decide +kernel) (by decide +kernel : decode cX12_overlay 94 = .ok (.getfield 26, 3)) hf (fun x94 hf => ?_)
    refine r_iload hB 3 rfl (by decide +kernel : decode cX12_overlay 97 = .ok (.iload 4, 2)) ?_
    refine r_iald hB (by decide +kernel : decode cX12_overlay 99 = .ok (.iaload, 1)) hf (fun x99 hf => ?_)
    refine r_iast hB (by decide +kernel : decode cX12_overlay 100 = .ok (.iastore, 1)) hf (fun m100 hf => ?_)
    refine r_iincB hB 3 rfl (by decide +kernel : decode cX12_overlay 101 = .ok (.iinc 4 1, 3)) (w := 1) (by decide +kernel) (by decide) hf (fun v101 hf => ?_)
    refine ww_lv (lv' := [(4, .int v101), (0, .ref (b + l0)), (1, .int l1), (3, .int l3)]) rfl ?_
    refine r_goto hB (tgt := 78) (by decide +kernel : decode cX12_overlay 104 = .ok (.goto (-26), 3)) (by decide) ?_
    obtain rfl := Option.some.inj hf
    exact WW.sub [1, 2, 3, 0] rfl hk
set_option maxHeartbeats 4000000 in
set_option maxRecDepth 100000 in
theorem t_X12_overlay_78 {X : BX} {D : va_G} {cy : Nat → ClassId} {b : Nat} {r : Option Value} {μ' : MS} (hB : BB X D cy b yX12_overlay cX12_overlay 6 (some .int) rmX12_overlay) {l0 : Nat} {l1 : Int32} {l3 : Int32} {l4 : Int32} {μ : MS} {z : (Int32 × MS)} (hf : f_X12_overlay_78 l0 l1 l3 l4 μ = some z) (hk : (fun z : Int32 × MS => r = some (.int z.1) ∧ μ' = z.2) z) : WW X D cy b r μ' 6 0 0 78 [(0, .ref (b + l0)), (1, .int l1), (3, .int l3), (4, .int l4)] [] μ :=
  lp_ind (P := fun s : Nat × Int32 × Int32 × Int32 × MS => WW X D cy b r μ' 6 0 0 78 [(0, .ref (b + s.1)), (1, .int s.2.1), (3, .int s.2.2.1), (4, .int s.2.2.2.1)] [] s.2.2.2.2) (Q := (fun z : Int32 × MS => r = some (.int z.1) ∧ μ' = z.2)) (fun s z hz hk => t_X12_overlay_78_b hB hz hk) (l0, l1, l3, l4, μ) z hf hk
set_option maxHeartbeats 4000000 in
set_option maxRecDepth 100000 in
theorem t_X12_overlay_0 {X : BX} {D : va_G} {cy : Nat → ClassId} {b : Nat} {r : Option Value} {μ' : MS} (hB : BB X D cy b yX12_overlay cX12_overlay 6 (some .int) rmX12_overlay) {l0 : Nat} {l1 : Int32} {l2 : Int32} {l3 : Int32} {μ : MS} {z : (Int32 × MS)} (hf : f_X12_overlay l0 l1 l2 l3 μ = some z) (hk : (fun z : Int32 × MS => r = some (.int z.1) ∧ μ' = z.2) z) : WW X D cy b r μ' 6 0 0 0 [(0, .ref (b + l0)), (1, .int l1), (2, .int l2), (3, .int l3)] [] μ := by
  unfold f_X12_overlay at hf
  refine r_iload_n hB 1 rfl (by decide +kernel : decode cX12_overlay 0 = .ok (.iload_n 1, 1)) rfl ?_
  refine r_cSi hB [.int l1] [] (own := "PulseRemoteModel") rfl cmX12_isSlot smX12_isSlot (Or.inl ⟨rfl, k_1367⟩) (by decide) rfl rfl rfl (Nat.le_of_ble_eq_true rfl) (by decide +kernel : decode cX12_overlay 1 = .ok (.invokestatic 199, 3)) (fun z hz => m_X12_isSlot _ _ _ _ hz) rfl hf (fun z1 hf => ?_)
  refine r_if_eq hB (tgt := 29) (by decide +kernel : decode cX12_overlay 4 = .ok (.ifCond .eq 25, 3)) (by decide) hf (fun _ hf => ?_) (fun _ hf => ?_)
  · refine r_iconst hB (v := (-1)) (by decide +kernel : decode cX12_overlay 29 = .ok (.iconst (-1), 1)) (by decide +kernel) ?_
    obtain rfl := Option.some.inj hf
    obtain ⟨rfl, rfl⟩ := hk
    exact r_iret hB (by decide +kernel : decode cX12_overlay 30 = .ok (.ireturn, 1))
  · refine r_iload_n hB 2 rfl (by decide +kernel : decode cX12_overlay 7 = .ok (.iload_n 2, 1)) rfl ?_
    refine r_cSi hB [.int l2] [] (own := "PulseRemoteModel") rfl cmX12_isSlot smX12_isSlot (Or.inl ⟨rfl, k_1367⟩) (by decide) rfl rfl rfl (Nat.le_of_ble_eq_true rfl) (by decide +kernel : decode cX12_overlay 8 = .ok (.invokestatic 199, 3)) (fun z hz => m_X12_isSlot _ _ _ _ hz) rfl hf (fun z8 hf => ?_)
    refine r_if_eq hB (tgt := 29) (by decide +kernel : decode cX12_overlay 11 = .ok (.ifCond .eq 18, 3)) (by decide) hf (fun _ hf => ?_) (fun _ hf => ?_)
    · refine r_iconst hB (v := (-1)) (by decide +kernel : decode cX12_overlay 29 = .ok (.iconst (-1), 1)) (by decide +kernel) ?_
      obtain rfl := Option.some.inj hf
      obtain ⟨rfl, rfl⟩ := hk
      exact r_iret hB (by decide +kernel : decode cX12_overlay 30 = .ok (.ireturn, 1))
    · refine r_iload_n hB 1 rfl (by decide +kernel : decode cX12_overlay 14 = .ok (.iload_n 1, 1)) rfl ?_
      refine r_iload_n hB 2 rfl (by decide +kernel : decode cX12_overlay 15 = .ok (.iload_n 2, 1)) rfl ?_
      refine r_icmp_eq hB (tgt := 29) (by decide +kernel : decode cX12_overlay 16 = .ok (.if_icmp .eq 13, 3)) (by decide) hf (fun _ hf => ?_) (fun _ hf => ?_)
      · refine r_iconst hB (v := (-1)) (by decide +kernel : decode cX12_overlay 29 = .ok (.iconst (-1), 1)) (by decide +kernel) ?_
        obtain rfl := Option.some.inj hf
        obtain ⟨rfl, rfl⟩ := hk
        exact r_iret hB (by decide +kernel : decode cX12_overlay 30 = .ok (.ireturn, 1))
      · refine r_iload_n hB 3 rfl (by decide +kernel : decode cX12_overlay 19 = .ok (.iload_n 3, 1)) rfl ?_
        refine r_iconst hB (v := 0) (by decide +kernel : decode cX12_overlay 20 = .ok (.iconst 0, 1)) (by decide +kernel) ?_
        refine r_ldc hB (v := 60000) (own := "PulseRemoteModel") rfl k_1301 (by decide +kernel : decode cX12_overlay 21 = .ok (.ldc 116, 2)) ?_
        refine r_cSi hB [.int l3, .int 0, .int 60000] [] (own := "PulseRemoteModel") rfl cmX12_in smX12_in (Or.inl ⟨rfl, k_1233⟩) (by decide) rfl rfl rfl (Nat.le_of_ble_eq_true rfl) (by decide +kernel : decode cX12_overlay 23 = .ok (.invokestatic 68, 3)) (fun z hz => m_X12_in _ _ _ _ hz) rfl hf (fun z23 hf => ?_)
        refine r_if_ne hB (tgt := 31) (by decide +kernel : decode cX12_overlay 26 = .ok (.ifCond .ne 5, 3)) (by decide) hf (fun _ hf => ?_) (fun _ hf => ?_)
        · refine r_iconst hB (v := (-1)) (by decide +kernel : decode cX12_overlay 29 = .ok (.iconst (-1), 1)) (by decide +kernel) ?_
          obtain rfl := Option.some.inj hf
          obtain ⟨rfl, rfl⟩ := hk
          exact r_iret hB (by decide +kernel : decode cX12_overlay 30 = .ok (.ireturn, 1))
        · refine r_aload_n hB 0 rfl (by decide +kernel : decode cX12_overlay 31 = .ok (.aload_n 0, 1)) rfl ?_
          refine r_gR hB cf12 0 (by decide) (own := "PulseRemoteModel") rfl (Or.inl k_1115) (by decide +kernel) (by decide +kernel : decode cX12_overlay 32 = .ok (.getfield 7, 3)) hf (fun x32 hf => ?_)
          refine r_bipush hB (v := 83) (by decide +kernel : decode cX12_overlay 35 = .ok (.bipush 83, 2)) (by decide +kernel) ?_
          refine r_iload_n hB 1 rfl (by decide +kernel : decode cX12_overlay 37 = .ok (.iload_n 1, 1)) rfl ?_
          refine r_iadd hB (by decide +kernel : decode cX12_overlay 38 = .ok (.iadd, 1)) ?_
          refine r_iald hB (by decide +kernel : decode cX12_overlay 39 = .ok (.iaload, 1)) hf (fun x39 hf => ?_)
          refine r_iconst hB (v := 2) (by decide +kernel : decode cX12_overlay 40 = .ok (.iconst 2, 1)) (by decide +kernel) ?_
          refine r_irem hB (by decide +kernel : decode cX12_overlay 41 = .ok (.irem, 1)) hf (fun v41 hf => ?_)
          refine r_if_eq hB (tgt := 59) (by decide +kernel : decode cX12_overlay 42 = .ok (.ifCond .eq 17, 3)) (by decide) hf (fun _ hf => ?_) (fun _ hf => ?_)
          · refine r_bipush hB (v := (-2)) (by decide +kernel : decode cX12_overlay 59 = .ok (.bipush (-2), 2)) (by decide +kernel) ?_
            obtain rfl := Option.some.inj hf
            obtain ⟨rfl, rfl⟩ := hk
            exact r_iret hB (by decide +kernel : decode cX12_overlay 61 = .ok (.ireturn, 1))
          · refine r_aload_n hB 0 rfl (by decide +kernel : decode cX12_overlay 45 = .ok (.aload_n 0, 1)) rfl ?_
            refine r_gR hB cf12 0 (by decide) (own := "PulseRemoteModel") rfl (Or.inl k_1115) (by decide +kernel) (by decide +kernel : decode cX12_overlay 46 = .ok (.getfield 7, 3)) hf (fun x46 hf => ?_)
            refine r_bipush hB (v := 83) (by decide +kernel : decode cX12_overlay 49 = .ok (.bipush 83, 2)) (by decide +kernel) ?_
            refine r_iload_n hB 2 rfl (by decide +kernel : decode cX12_overlay 51 = .ok (.iload_n 2, 1)) rfl ?_
            refine r_iadd hB (by decide +kernel : decode cX12_overlay 52 = .ok (.iadd, 1)) ?_
            refine r_iald hB (by decide +kernel : decode cX12_overlay 53 = .ok (.iaload, 1)) hf (fun x53 hf => ?_)
            refine r_iconst hB (v := 2) (by decide +kernel : decode cX12_overlay 54 = .ok (.iconst 2, 1)) (by decide +kernel) ?_
            refine r_irem hB (by decide +kernel : decode cX12_overlay 55 = .ok (.irem, 1)) hf (fun v55 hf => ?_)
            refine r_if_ne hB (tgt := 62) (by decide +kernel : decode cX12_overlay 56 = .ok (.ifCond .ne 6, 3)) (by decide) hf (fun _ hf => ?_) (fun _ hf => ?_)
            · refine r_bipush hB (v := (-2)) (by decide +kernel : decode cX12_overlay 59 = .ok (.bipush (-2), 2)) (by decide +kernel) ?_
              obtain rfl := Option.some.inj hf
              obtain ⟨rfl, rfl⟩ := hk
              exact r_iret hB (by decide +kernel : decode cX12_overlay 61 = .ok (.ireturn, 1))
            · refine r_aload_n hB 0 rfl (by decide +kernel : decode cX12_overlay 62 = .ok (.aload_n 0, 1)) rfl ?_
              refine r_iload_n hB 2 rfl (by decide +kernel : decode cX12_overlay 63 = .ok (.iload_n 2, 1)) rfl ?_
              refine r_cVv hB [.int l2] [] cf12 (own := "PulseRemoteModel") rfl cmX12_looksAt imX12_looksAt (Or.inl k_1413) (by decide) rfl rfl rfl (Nat.le_of_ble_eq_true rfl) (by decide +kernel : decode cX12_overlay 64 = .ok (.invokevirtual 215, 3)) (fun z hz => m_X12_looksAt _ _ _ _ hz) rfl hf (fun z64 hf => ?_)
              refine r_aload_n hB 0 rfl (by decide +kernel : decode cX12_overlay 67 = .ok (.aload_n 0, 1)) rfl ?_
              refine r_aload_n hB 0 rfl (by decide +kernel : decode cX12_overlay 68 = .ok (.aload_n 0, 1)) rfl ?_
              refine r_gI hB cf12 14 (by decide) (own := "PulseRemoteModel") rfl (Or.inl k_1129) (by decide +kernel) (by decide +kernel : decode cX12_overlay 69 = .ok (.getfield 193, 3)) hf (fun x69 hf => ?_)
              refine r_pI hB cf12 16 (by decide) (own := "PulseRemoteModel") rfl (Or.inl k_1131) (Or.inl rfl) rfl (by decide +kernel : decode cX12_overlay 72 = .ok (.putfield 212, 3)) hf (fun m72 hf => ?_)
              refine r_iconst hB (v := 0) (by decide +kernel : decode cX12_overlay 75 = .ok (.iconst 0, 1)) (by decide +kernel) ?_
              refine r_istore hB (by decide +kernel : decode cX12_overlay 76 = .ok (.istore 4, 2)) (by decide) rfl ?_
              refine ww_lv (lv' := [(4, .int 0), (0, .ref (b + l0)), (1, .int l1), (2, .int l2), (3, .int l3)]) rfl ?_
              exact WW.sub [1, 2, 4, 0] rfl (t_X12_overlay_78 hB hf hk)
theorem m_X12_overlay (l : Launch) (D : va_G) (cy : Nat → ClassId) (b : Nat) {l0 : Nat} {l1 : Int32} {l2 : Int32} {l3 : Int32} {μ : MS} {z : Int32 × MS} (hf : f_X12_overlay l0 l1 l2 l3 μ = some z) : Met l yX12_overlay (.code yX12_overlay cX12_overlay 6 (some .int) :: GW) rmX12_overlay (Pw D cy b [.ref (b + l0), .int l1, .int l2, .int l3] μ) (Qw D cy b (some (.int z.1)) (z.2)) rmX12_overlay.cells rmX12_overlay.slots (fun q => b ≤ q) :=
  met_of (by decide) (Nat.le_of_ble_eq_true rfl) (fun X hB _ => (t_X12_overlay_0 hB hf ⟨rfl, rfl⟩))
-- PulseRemoteModel.floor(II)I
set_option maxHeartbeats 4000000 in
set_option maxRecDepth 100000 in
theorem t_X12_floor_0 {X : BX} {D : va_G} {cy : Nat → ClassId} {b : Nat} {r : Option Value} {μ' : MS} (hB : BB X D cy b yX12_floor cX12_floor 2 (some .int) rmX12_floor) {l0 : Int32} {l1 : Int32} {μ : MS} {z : (Int32 × MS)} (hf : f_X12_floor l0 l1 μ = some z) (hk : (fun z : Int32 × MS => r = some (.int z.1) ∧ μ' = z.2) z) : WW X D cy b r μ' 2 0 0 0 [(0, .int l0), (1, .int l1)] [] μ := by
  unfold f_X12_floor at hf
  refine r_iload_n hB 0 rfl (by decide +kernel : decode cX12_floor 0 = .ok (.iload_n 0, 1)) rfl ?_
  refine r_if_lt hB (tgt := 10) (by decide +kernel : decode cX12_floor 1 = .ok (.ifCond .lt 9, 3)) (by decide) hf (fun _ hf => ?_) (fun _ hf => ?_)
  · refine r_iload_n hB 0 rfl (by decide +kernel : decode cX12_floor 10 = .ok (.iload_n 0, 1)) rfl ?_
    refine r_ineg hB (by decide +kernel : decode cX12_floor 11 = .ok (.ineg, 1)) ?_
    refine r_iload_n hB 1 rfl (by decide +kernel : decode cX12_floor 12 = .ok (.iload_n 1, 1)) rfl ?_
    refine r_iadd hB (by decide +kernel : decode cX12_floor 13 = .ok (.iadd, 1)) ?_
    refine r_iconst hB (v := 1) (by decide +kernel : decode cX12_floor 14 = .ok (.iconst 1, 1)) (by decide +kernel) ?_
    refine r_isub hB (by decide +kernel : decode cX12_floor 15 = .ok (.isub, 1)) ?_
    refine r_iload_n hB 1 rfl (by decide +kernel : decode cX12_floor 16 = .ok (.iload_n 1, 1)) rfl ?_
    refine r_idiv hB (by decide +kernel : decode cX12_floor 17 = .ok (.idiv, 1)) hf (fun v17 hf => ?_)
    refine r_ineg hB (by decide +kernel : decode cX12_floor 18 = .ok (.ineg, 1)) ?_
    obtain rfl := Option.some.inj hf
    obtain ⟨rfl, rfl⟩ := hk
    exact r_iret hB (by decide +kernel : decode cX12_floor 19 = .ok (.ireturn, 1))
  · refine r_iload_n hB 0 rfl (by decide +kernel : decode cX12_floor 4 = .ok (.iload_n 0, 1)) rfl ?_
    refine r_iload_n hB 1 rfl (by decide +kernel : decode cX12_floor 5 = .ok (.iload_n 1, 1)) rfl ?_
    refine r_idiv hB (by decide +kernel : decode cX12_floor 6 = .ok (.idiv, 1)) hf (fun v6 hf => ?_)
    refine r_goto hB (tgt := 19) (by decide +kernel : decode cX12_floor 7 = .ok (.goto 12, 3)) (by decide) ?_
    obtain rfl := Option.some.inj hf
    obtain ⟨rfl, rfl⟩ := hk
    exact r_iret hB (by decide +kernel : decode cX12_floor 19 = .ok (.ireturn, 1))
theorem m_X12_floor (l : Launch) (D : va_G) (cy : Nat → ClassId) (b : Nat) {l0 : Int32} {l1 : Int32} {μ : MS} {z : Int32 × MS} (hf : f_X12_floor l0 l1 μ = some z) : Met l yX12_floor (.code yX12_floor cX12_floor 2 (some .int) :: GW) rmX12_floor (Pw D cy b [.int l0, .int l1] μ) (Qw D cy b (some (.int z.1)) (z.2)) rmX12_floor.cells rmX12_floor.slots (fun q => b ≤ q) :=
  met_of (by decide) (Nat.le_of_ble_eq_true rfl) (fun X hB _ => (t_X12_floor_0 hB hf ⟨rfl, rfl⟩))
-- PulseRemoteModel.distort(III)I
set_option maxHeartbeats 4000000 in
set_option maxRecDepth 100000 in
theorem t_X12_distort_164 {X : BX} {D : va_G} {cy : Nat → ClassId} {b : Nat} {r : Option Value} {μ' : MS} (hB : BB X D cy b yX12_distort cX12_distort 9 (some .int) rmX12_distort) {l4 : Int32} {μ : MS} {z : (Int32 × MS)} (hf : f_X12_distort_164 l4 μ = some z) (hk : (fun z : Int32 × MS => r = some (.int z.1) ∧ μ' = z.2) z) : WW X D cy b r μ' 9 0 0 164 [(4, .int l4)] [] μ := by
  unfold f_X12_distort_164 at hf
  refine r_iload hB 0 rfl (by decide +kernel : decode cX12_distort 164 = .ok (.iload 4, 2)) ?_
  obtain rfl := Option.some.inj hf
  obtain ⟨rfl, rfl⟩ := hk
  exact r_iret hB (by decide +kernel : decode cX12_distort 166 = .ok (.ireturn, 1))
set_option maxHeartbeats 4000000 in
set_option maxRecDepth 100000 in
theorem t_X12_distort_155 {X : BX} {D : va_G} {cy : Nat → ClassId} {b : Nat} {r : Option Value} {μ' : MS} (hB : BB X D cy b yX12_distort cX12_distort 9 (some .int) rmX12_distort) {l0 : Nat} {l1 : Int32} {l2 : Int32} {l3 : Int32} {l5 : Int32} {s0 : Int32} {s1 : Int32} {μ : MS} {z : ((Nat × Int32 × Int32 × Int32 × Int32 × Int32 × MS) ⊕ (Int32 × MS))} (hf : f_X12_distort_155 l0 l1 l2 l3 l5 s0 s1 μ = some z) (hk : (Sum.elim (fun s : Nat × Int32 × Int32 × Int32 × Int32 × Int32 × MS => WW X D cy b r μ' 9 0 0 38 [(0, .ref (b + s.1)), (1, .int s.2.1), (2, .int s.2.2.1), (3, .int s.2.2.2.1), (4, .int s.2.2.2.2.1), (5, .int s.2.2.2.2.2.1)] [] s.2.2.2.2.2.2) (fun z : Int32 × MS => r = some (.int z.1) ∧ μ' = z.2)) z) : WW X D cy b r μ' 9 0 0 155 [(0, .ref (b + l0)), (1, .int l1), (2, .int l2), (3, .int l3), (5, .int l5)] [.int s0, .int s1] μ := by
  unfold f_X12_distort_155 at hf
  refine r_iadd hB (by decide +kernel : decode cX12_distort 155 = .ok (.iadd, 1)) ?_
  refine r_name hf (fun v156 hf => ?_)
  refine r_istore hB (by decide +kernel : decode cX12_distort 156 = .ok (.istore 4, 2)) (by decide) rfl ?_
  refine ww_lv (lv' := [(4, .int v156), (0, .ref (b + l0)), (1, .int l1), (2, .int l2), (3, .int l3), (5, .int l5)]) rfl ?_
  refine r_iincB hB 5 rfl (by decide +kernel : decode cX12_distort 158 = .ok (.iinc 5 1, 3)) (w := 1) (by decide +kernel) (by decide) hf (fun v158 hf => ?_)
  refine ww_lv (lv' := [(5, .int v158), (4, .int v156), (0, .ref (b + l0)), (1, .int l1), (2, .int l2), (3, .int l3)]) rfl ?_
  refine r_goto hB (tgt := 38) (by decide +kernel : decode cX12_distort 161 = .ok (.goto (-123), 3)) (by decide) ?_
  obtain rfl := Option.some.inj hf
  exact WW.sub [2, 3, 4, 5, 1, 0] rfl hk
set_option maxHeartbeats 4000000 in
set_option maxRecDepth 100000 in
theorem t_X12_distort_125 {X : BX} {D : va_G} {cy : Nat → ClassId} {b : Nat} {r : Option Value} {μ' : MS} (hB : BB X D cy b yX12_distort cX12_distort 9 (some .int) rmX12_distort) {l0 : Nat} {l1 : Int32} {l2 : Int32} {l3 : Int32} {l4 : Int32} {l5 : Int32} {l7 : Int32} {s0 : Int32} {μ : MS} {z : ((Nat × Int32 × Int32 × Int32 × Int32 × Int32 × MS) ⊕ (Int32 × MS))} (hf : f_X12_distort_125 l0 l1 l2 l3 l4 l5 l7 s0 μ = some z) (hk : (Sum.elim (fun s : Nat × Int32 × Int32 × Int32 × Int32 × Int32 × MS => WW X D cy b r μ' 9 0 0 38 [(0, .ref (b + s.1)), (1, .int s.2.1), (2, .int s.2.2.1), (3, .int s.2.2.2.1), (4, .int s.2.2.2.2.1), (5, .int s.2.2.2.2.2.1)] [] s.2.2.2.2.2.2) (fun z : Int32 × MS => r = some (.int z.1) ∧ μ' = z.2)) z) : WW X D cy b r μ' 9 0 0 125 [(0, .ref (b + l0)), (1, .int l1), (2, .int l2), (3, .int l3), (4, .int l4), (5, .int l5), (7, .int l7)] [.int s0] μ := by
  unfold f_X12_distort_125 at hf
  refine r_istore hB (by decide +kernel : decode cX12_distort 125 = .ok (.istore 8, 2)) (by decide) rfl ?_
  refine ww_lv (lv' := [(8, .int s0), (0, .ref (b + l0)), (1, .int l1), (2, .int l2), (3, .int l3), (4, .int l4), (5, .int l5), (7, .int l7)]) rfl ?_
  refine r_aload_n hB 1 rfl (by decide +kernel : decode cX12_distort 127 = .ok (.aload_n 0, 1)) rfl ?_
  refine r_gR hB cf12 0 (by decide) (own := "PulseRemoteModel") rfl (Or.inl k_1115) (by decide +kernel) (by decide +kernel : decode cX12_distort 128 = .ok (.getfield 7, 3)) hf (fun x128 hf => ?_)
  refine r_iload_n hB 2 rfl (by decide +kernel : decode cX12_distort 131 = .ok (.iload_n 1, 1)) rfl ?_
  refine r_cSi hB [.int l1] [.ref (b + x128)] (own := "PulseRemoteModel") rfl cmX12_trainAt smX12_trainAt (Or.inl ⟨rfl, k_1370⟩) (by decide) rfl rfl rfl (Nat.le_of_ble_eq_true rfl) (by decide +kernel : decode cX12_distort 132 = .ok (.invokestatic 196, 3)) (fun z hz => m_X12_trainAt _ _ _ _ hz) rfl hf (fun z132 hf => ?_)
  refine r_iload hB 6 rfl (by decide +kernel : decode cX12_distort 135 = .ok (.iload 5, 2)) ?_
  refine r_iadd hB (by decide +kernel : decode cX12_distort 137 = .ok (.iadd, 1)) ?_
  refine r_iload hB 0 rfl (by decide +kernel : decode cX12_distort 138 = .ok (.iload 8, 2)) ?_
  refine r_iast hB (by decide +kernel : decode cX12_distort 140 = .ok (.iastore, 1)) hf (fun m140 hf => ?_)
  refine r_iload hB 5 rfl (by decide +kernel : decode cX12_distort 141 = .ok (.iload 4, 2)) ?_
  refine r_iload hB 0 rfl (by decide +kernel : decode cX12_distort 143 = .ok (.iload 8, 2)) ?_
  refine r_iload hB 7 rfl (by decide +kernel : decode cX12_distort 145 = .ok (.iload 7, 2)) ?_
  refine r_icmp_eq hB (tgt := 154) (by decide +kernel : decode cX12_distort 147 = .ok (.if_icmp .eq 7, 3)) (by decide) hf (fun _ hf => ?_) (fun _ hf => ?_)
  · refine r_iconst hB (v := 0) (by decide +kernel : decode cX12_distort 154 = .ok (.iconst 0, 1)) (by decide +kernel) ?_
    exact WW.sub [1, 2, 3, 4, 6] rfl (t_X12_distort_155 hB hf hk)
  · refine r_iconst hB (v := 1) (by decide +kernel : decode cX12_distort 150 = .ok (.iconst 1, 1)) (by decide +kernel) ?_
    refine r_goto hB (tgt := 155) (by decide +kernel : decode cX12_distort 151 = .ok (.goto 4, 3)) (by decide) ?_
    exact WW.sub [1, 2, 3, 4, 6] rfl (t_X12_distort_155 hB hf hk)
set_option maxHeartbeats 4000000 in
set_option maxRecDepth 100000 in
theorem t_X12_distort_69 {X : BX} {D : va_G} {cy : Nat → ClassId} {b : Nat} {r : Option Value} {μ' : MS} (hB : BB X D cy b yX12_distort cX12_distort 9 (some .int) rmX12_distort) {l0 : Nat} {l1 : Int32} {l2 : Int32} {l3 : Int32} {l4 : Int32} {l5 : Int32} {s0 : Int32} {s1 : Int32} {μ : MS} {z : ((Nat × Int32 × Int32 × Int32 × Int32 × Int32 × MS) ⊕ (Int32 × MS))} (hf : f_X12_distort_69 l0 l1 l2 l3 l4 l5 s0 s1 μ = some z) (hk : (Sum.elim (fun s : Nat × Int32 × Int32 × Int32 × Int32 × Int32 × MS => WW X D cy b r μ' 9 0 0 38 [(0, .ref (b + s.1)), (1, .int s.2.1), (2, .int s.2.2.1), (3, .int s.2.2.2.1), (4, .int s.2.2.2.2.1), (5, .int s.2.2.2.2.2.1)] [] s.2.2.2.2.2.2) (fun z : Int32 × MS => r = some (.int z.1) ∧ μ' = z.2)) z) : WW X D cy b r μ' 9 0 0 69 [(0, .ref (b + l0)), (1, .int l1), (2, .int l2), (3, .int l3), (4, .int l4), (5, .int l5)] [.int s0, .int s1] μ := by
  unfold f_X12_distort_69 at hf
  refine r_imul hB (by decide +kernel : decode cX12_distort 69 = .ok (.imul, 1)) ?_
  refine r_name hf (fun v70 hf => ?_)
  refine r_istore hB (by decide +kernel : decode cX12_distort 70 = .ok (.istore 6, 2)) (by decide) rfl ?_
  refine ww_lv (lv' := [(6, .int v70), (0, .ref (b + l0)), (1, .int l1), (2, .int l2), (3, .int l3), (4, .int l4), (5, .int l5)]) rfl ?_
  refine r_aload_n hB 1 rfl (by decide +kernel : decode cX12_distort 72 = .ok (.aload_n 0, 1)) rfl ?_
  refine r_gR hB cf12 0 (by decide) (own := "PulseRemoteModel") rfl (Or.inl k_1115) (by decide +kernel) (by decide +kernel : decode cX12_distort 73 = .ok (.getfield 7, 3)) hf (fun x73 hf => ?_)
  refine r_iload_n hB 2 rfl (by decide +kernel : decode cX12_distort 76 = .ok (.iload_n 1, 1)) rfl ?_
  refine r_cSi hB [.int l1] [.ref (b + x73)] (own := "PulseRemoteModel") rfl cmX12_trainAt smX12_trainAt (Or.inl ⟨rfl, k_1370⟩) (by decide) rfl rfl rfl (Nat.le_of_ble_eq_true rfl) (by decide +kernel : decode cX12_distort 77 = .ok (.invokestatic 196, 3)) (fun z hz => m_X12_trainAt _ _ _ _ hz) rfl hf (fun z77 hf => ?_)
  refine r_iload hB 6 rfl (by decide +kernel : decode cX12_distort 80 = .ok (.iload 5, 2)) ?_
  refine r_iadd hB (by decide +kernel : decode cX12_distort 82 = .ok (.iadd, 1)) ?_
  refine r_iald hB (by decide +kernel : decode cX12_distort 83 = .ok (.iaload, 1)) hf (fun x83 hf => ?_)
  refine r_istore hB (by decide +kernel : decode cX12_distort 84 = .ok (.istore 7, 2)) (by decide) rfl ?_
  refine ww_lv (lv' := [(7, .int x83), (6, .int v70), (0, .ref (b + l0)), (1, .int l1), (2, .int l2), (3, .int l3), (4, .int l4), (5, .int l5)]) rfl ?_
  refine r_iload hB 0 rfl (by decide +kernel : decode cX12_distort 86 = .ok (.iload 7, 2)) ?_
  refine r_iload hB 0 rfl (by decide +kernel : decode cX12_distort 88 = .ok (.iload 7, 2)) ?_
  refine r_iload hB 1 rfl (by decide +kernel : decode cX12_distort 90 = .ok (.iload 6, 2)) ?_
  refine r_imul hB (by decide +kernel : decode cX12_distort 92 = .ok (.imul, 1)) ?_
  refine r_bipush hB (v := 100) (by decide +kernel : decode cX12_distort 93 = .ok (.bipush 100, 2)) (by decide +kernel) ?_
  refine r_cSi hB [.int (x83 * v70), .int 100] [.int x83] (own := "PulseRemoteModel") rfl cmX12_floor smX12_floor (Or.inl ⟨rfl, k_1425⟩) (by decide) rfl rfl rfl (Nat.le_of_ble_eq_true rfl) (by decide +kernel : decode cX12_distort 95 = .ok (.invokestatic 221, 3)) (fun z hz => m_X12_floor _ _ _ _ hz) rfl hf (fun z95 hf => ?_)
  refine r_iadd hB (by decide +kernel : decode cX12_distort 98 = .ok (.iadd, 1)) ?_
  refine r_name hf (fun v99 hf => ?_)
  refine r_istore hB (by decide +kernel : decode cX12_distort 99 = .ok (.istore 8, 2)) (by decide) rfl ?_
  refine ww_lv (lv' := [(8, .int v99), (7, .int x83), (6, .int v70), (0, .ref (b + l0)), (1, .int l1), (2, .int l2), (3, .int l3), (4, .int l4), (5, .int l5)]) rfl ?_
  refine r_iload hB 0 rfl (by decide +kernel : decode cX12_distort 101 = .ok (.iload 8, 2)) ?_
  refine r_iconst hB (v := 1) (by decide +kernel : decode cX12_distort 103 = .ok (.iconst 1, 1)) (by decide +kernel) ?_
  refine r_icmp_ge hB (tgt := 111) (by decide +kernel : decode cX12_distort 104 = .ok (.if_icmp .ge 7, 3)) (by decide) hf (fun _ hf => ?_) (fun _ hf => ?_)
  · refine r_iload hB 0 rfl (by decide +kernel : decode cX12_distort 111 = .ok (.iload 8, 2)) ?_
    refine r_ldc hB (v := 60000) (own := "PulseRemoteModel") rfl k_1301 (by decide +kernel : decode cX12_distort 113 = .ok (.ldc 116, 2)) ?_
    refine r_icmp_le hB (tgt := 123) (by decide +kernel : decode cX12_distort 115 = .ok (.if_icmp .le 8, 3)) (by decide) hf (fun _ hf => ?_) (fun _ hf => ?_)
    · refine r_iload hB 0 rfl (by decide +kernel : decode cX12_distort 123 = .ok (.iload 8, 2)) ?_
      exact WW.sub [3, 4, 5, 6, 7, 8, 1] rfl (t_X12_distort_125 hB hf hk)
    · refine r_ldc hB (v := 60000) (own := "PulseRemoteModel") rfl k_1301 (by decide +kernel : decode cX12_distort 118 = .ok (.ldc 116, 2)) ?_
      refine r_goto hB (tgt := 125) (by decide +kernel : decode cX12_distort 120 = .ok (.goto 5, 3)) (by decide) ?_
      exact WW.sub [3, 4, 5, 6, 7, 8, 1] rfl (t_X12_distort_125 hB hf hk)
  · refine r_iconst hB (v := 1) (by decide +kernel : decode cX12_distort 107 = .ok (.iconst 1, 1)) (by decide +kernel) ?_
    refine r_goto hB (tgt := 125) (by decide +kernel : decode cX12_distort 108 = .ok (.goto 17, 3)) (by decide) ?_
    exact WW.sub [3, 4, 5, 6, 7, 8, 1] rfl (t_X12_distort_125 hB hf hk)
set_option maxHeartbeats 4000000 in
set_option maxRecDepth 100000 in
theorem t_X12_distort_38_b {X : BX} {D : va_G} {cy : Nat → ClassId} {b : Nat} {r : Option Value} {μ' : MS} (hB : BB X D cy b yX12_distort cX12_distort 9 (some .int) rmX12_distort) {l0 : Nat} {l1 : Int32} {l2 : Int32} {l3 : Int32} {l4 : Int32} {l5 : Int32} {μ : MS} {z : ((Nat × Int32 × Int32 × Int32 × Int32 × Int32 × MS) ⊕ (Int32 × MS))} (hf : f_X12_distort_38_b l0 l1 l2 l3 l4 l5 μ = some z) (hk : (Sum.elim (fun s : Nat × Int32 × Int32 × Int32 × Int32 × Int32 × MS => WW X D cy b r μ' 9 0 0 38 [(0, .ref (b + s.1)), (1, .int s.2.1), (2, .int s.2.2.1), (3, .int s.2.2.2.1), (4, .int s.2.2.2.2.1), (5, .int s.2.2.2.2.2.1)] [] s.2.2.2.2.2.2) (fun z : Int32 × MS => r = some (.int z.1) ∧ μ' = z.2)) z) : WW X D cy b r μ' 9 0 0 38 [(0, .ref (b + l0)), (1, .int l1), (2, .int l2), (3, .int l3), (4, .int l4), (5, .int l5)] [] μ := by
  unfold f_X12_distort_38_b at hf
  refine r_iload hB 5 rfl (by decide +kernel : decode cX12_distort 38 = .ok (.iload 5, 2)) ?_
  refine r_aload_n hB 0 rfl (by decide +kernel : decode cX12_distort 40 = .ok (.aload_n 0, 1)) rfl ?_
  refine r_gR hB cf12 0 (by decide) (own := "PulseRemoteModel") rfl (Or.inl k_1115) (by decide +kernel) (by decide +kernel : decode cX12_distort 41 = .ok (.getfield 7, 3)) hf (fun x41 hf => ?_)
  refine r_bipush hB (v := 83) (by decide +kernel : decode cX12_distort 44 = .ok (.bipush 83, 2)) (by decide +kernel) ?_
  refine r_iload_n hB 1 rfl (by decide +kernel : decode cX12_distort 46 = .ok (.iload_n 1, 1)) rfl ?_
  refine r_iadd hB (by decide +kernel : decode cX12_distort 47 = .ok (.iadd, 1)) ?_
  refine r_iald hB (by decide +kernel : decode cX12_distort 48 = .ok (.iaload, 1)) hf (fun x48 hf => ?_)
  refine r_icmp_ge hB (tgt := 164) (by decide +kernel : decode cX12_distort 49 = .ok (.if_icmp .ge 115, 3)) (by decide) hf (fun _ hf => ?_) (fun _ hf => ?_)
  · obtain ⟨_, hx0, rfl⟩ := xr_inv hf
    exact WW.sub [4] rfl (t_X12_distort_164 hB hx0 hk)
  · refine r_iload hB 5 rfl (by decide +kernel : decode cX12_distort 52 = .ok (.iload 5, 2)) ?_
    refine r_iconst hB (v := 3) (by decide +kernel : decode cX12_distort 54 = .ok (.iconst 3, 1)) (by decide +kernel) ?_
    refine r_irem hB (by decide +kernel : decode cX12_distort 55 = .ok (.irem, 1)) hf (fun v55 hf => ?_)
    refine r_iconst hB (v := 1) (by decide +kernel : decode cX12_distort 56 = .ok (.iconst 1, 1)) (by decide +kernel) ?_
    refine r_isub hB (by decide +kernel : decode cX12_distort 57 = .ok (.isub, 1)) ?_
    refine r_iload_n hB 3 rfl (by decide +kernel : decode cX12_distort 58 = .ok (.iload_n 3, 1)) rfl ?_
    refine r_iconst hB (v := 1) (by decide +kernel : decode cX12_distort 59 = .ok (.iconst 1, 1)) (by decide +kernel) ?_
    refine r_icmp_ne hB (tgt := 68) (by decide +kernel : decode cX12_distort 60 = .ok (.if_icmp .ne 8, 3)) (by decide) hf (fun _ hf => ?_) (fun _ hf => ?_)
    · refine r_iload_n hB 2 rfl (by decide +kernel : decode cX12_distort 63 = .ok (.iload_n 2, 1)) rfl ?_
      refine r_ineg hB (by decide +kernel : decode cX12_distort 64 = .ok (.ineg, 1)) ?_
      refine r_goto hB (tgt := 69) (by decide +kernel : decode cX12_distort 65 = .ok (.goto 4, 3)) (by decide) ?_
      exact WW.sub [0, 1, 2, 3, 4, 5] rfl (t_X12_distort_69 hB hf hk)
    · refine r_iload_n hB 2 rfl (by decide +kernel : decode cX12_distort 68 = .ok (.iload_n 2, 1)) rfl ?_
      exact WW.sub [0, 1, 2, 3, 4, 5] rfl (t_X12_distort_69 hB hf hk)
set_option maxHeartbeats 4000000 in
set_option maxRecDepth 100000 in
theorem t_X12_distort_38 {X : BX} {D : va_G} {cy : Nat → ClassId} {b : Nat} {r : Option Value} {μ' : MS} (hB : BB X D cy b yX12_distort cX12_distort 9 (some .int) rmX12_distort) {l0 : Nat} {l1 : Int32} {l2 : Int32} {l3 : Int32} {l4 : Int32} {l5 : Int32} {μ : MS} {z : (Int32 × MS)} (hf : f_X12_distort_38 l0 l1 l2 l3 l4 l5 μ = some z) (hk : (fun z : Int32 × MS => r = some (.int z.1) ∧ μ' = z.2) z) : WW X D cy b r μ' 9 0 0 38 [(0, .ref (b + l0)), (1, .int l1), (2, .int l2), (3, .int l3), (4, .int l4), (5, .int l5)] [] μ :=
  lp_ind (P := fun s : Nat × Int32 × Int32 × Int32 × Int32 × Int32 × MS => WW X D cy b r μ' 9 0 0 38 [(0, .ref (b + s.1)), (1, .int s.2.1), (2, .int s.2.2.1), (3, .int s.2.2.2.1), (4, .int s.2.2.2.2.1), (5, .int s.2.2.2.2.2.1)] [] s.2.2.2.2.2.2) (Q := (fun z : Int32 × MS => r = some (.int z.1) ∧ μ' = z.2)) (fun s z hz hk => t_X12_distort_38_b hB hz hk) (l0, l1, l2, l3, l4, l5, μ) z hf hk
set_option maxHeartbeats 4000000 in
set_option maxRecDepth 100000 in
theorem t_X12_distort_0 {X : BX} {D : va_G} {cy : Nat → ClassId} {b : Nat} {r : Option Value} {μ' : MS} (hB : BB X D cy b yX12_distort cX12_distort 9 (some .int) rmX12_distort) {l0 : Nat} {l1 : Int32} {l2 : Int32} {l3 : Int32} {μ : MS} {z : (Int32 × MS)} (hf : f_X12_distort l0 l1 l2 l3 μ = some z) (hk : (fun z : Int32 × MS => r = some (.int z.1) ∧ μ' = z.2) z) : WW X D cy b r μ' 9 0 0 0 [(0, .ref (b + l0)), (1, .int l1), (2, .int l2), (3, .int l3)] [] μ := by
  unfold f_X12_distort at hf
  refine r_iload_n hB 1 rfl (by decide +kernel : decode cX12_distort 0 = .ok (.iload_n 1, 1)) rfl ?_
  refine r_cSi hB [.int l1] [] (own := "PulseRemoteModel") rfl cmX12_isSlot smX12_isSlot (Or.inl ⟨rfl, k_1367⟩) (by decide) rfl rfl rfl (Nat.le_of_ble_eq_true rfl) (by decide +kernel : decode cX12_distort 1 = .ok (.invokestatic 199, 3)) (fun z hz => m_X12_isSlot _ _ _ _ hz) rfl hf (fun z1 hf => ?_)
  refine r_if_eq hB (tgt := 26) (by decide +kernel : decode cX12_distort 4 = .ok (.ifCond .eq 22, 3)) (by decide) hf (fun _ hf => ?_) (fun _ hf => ?_)
  · refine r_iconst hB (v := (-1)) (by decide +kernel : decode cX12_distort 26 = .ok (.iconst (-1), 1)) (by decide +kernel) ?_
    obtain rfl := Option.some.inj hf
    obtain ⟨rfl, rfl⟩ := hk
    exact r_iret hB (by decide +kernel : decode cX12_distort 27 = .ok (.ireturn, 1))
  · refine r_iload_n hB 2 rfl (by decide +kernel : decode cX12_distort 7 = .ok (.iload_n 2, 1)) rfl ?_
    refine r_iconst hB (v := 0) (by decide +kernel : decode cX12_distort 8 = .ok (.iconst 0, 1)) (by decide +kernel) ?_
    refine r_bipush hB (v := 30) (by decide +kernel : decode cX12_distort 9 = .ok (.bipush 30, 2)) (by decide +kernel) ?_
    refine r_cSi hB [.int l2, .int 0, .int 30] [] (own := "PulseRemoteModel") rfl cmX12_in smX12_in (Or.inl ⟨rfl, k_1233⟩) (by decide) rfl rfl rfl (Nat.le_of_ble_eq_true rfl) (by decide +kernel : decode cX12_distort 11 = .ok (.invokestatic 68, 3)) (fun z hz => m_X12_in _ _ _ _ hz) rfl hf (fun z11 hf => ?_)
    refine r_if_eq hB (tgt := 26) (by decide +kernel : decode cX12_distort 14 = .ok (.ifCond .eq 12, 3)) (by decide) hf (fun _ hf => ?_) (fun _ hf => ?_)
    · refine r_iconst hB (v := (-1)) (by decide +kernel : decode cX12_distort 26 = .ok (.iconst (-1), 1)) (by decide +kernel) ?_
      obtain rfl := Option.some.inj hf
      obtain ⟨rfl, rfl⟩ := hk
      exact r_iret hB (by decide +kernel : decode cX12_distort 27 = .ok (.ireturn, 1))
    · refine r_iload_n hB 3 rfl (by decide +kernel : decode cX12_distort 17 = .ok (.iload_n 3, 1)) rfl ?_
      refine r_iconst hB (v := 0) (by decide +kernel : decode cX12_distort 18 = .ok (.iconst 0, 1)) (by decide +kernel) ?_
      refine r_iconst hB (v := 1) (by decide +kernel : decode cX12_distort 19 = .ok (.iconst 1, 1)) (by decide +kernel) ?_
      refine r_cSi hB [.int l3, .int 0, .int 1] [] (own := "PulseRemoteModel") rfl cmX12_in smX12_in (Or.inl ⟨rfl, k_1233⟩) (by decide) rfl rfl rfl (Nat.le_of_ble_eq_true rfl) (by decide +kernel : decode cX12_distort 20 = .ok (.invokestatic 68, 3)) (fun z hz => m_X12_in _ _ _ _ hz) rfl hf (fun z20 hf => ?_)
      refine r_if_ne hB (tgt := 28) (by decide +kernel : decode cX12_distort 23 = .ok (.ifCond .ne 5, 3)) (by decide) hf (fun _ hf => ?_) (fun _ hf => ?_)
      · refine r_iconst hB (v := (-1)) (by decide +kernel : decode cX12_distort 26 = .ok (.iconst (-1), 1)) (by decide +kernel) ?_
        obtain rfl := Option.some.inj hf
        obtain ⟨rfl, rfl⟩ := hk
        exact r_iret hB (by decide +kernel : decode cX12_distort 27 = .ok (.ireturn, 1))
      · refine r_aload_n hB 0 rfl (by decide +kernel : decode cX12_distort 28 = .ok (.aload_n 0, 1)) rfl ?_
        refine r_cVv hB [] [] cf12 (own := "PulseRemoteModel") rfl cmX12_note imX12_note (Or.inl k_1236) (by decide) rfl rfl rfl (Nat.le_of_ble_eq_true rfl) (by decide +kernel : decode cX12_distort 29 = .ok (.invokevirtual 80, 3)) (fun z hz => m_X12_note _ _ _ _ hz) rfl hf (fun z29 hf => ?_)
        refine r_iconst hB (v := 0) (by decide +kernel : decode cX12_distort 32 = .ok (.iconst 0, 1)) (by decide +kernel) ?_
        refine r_istore hB (by decide +kernel : decode cX12_distort 33 = .ok (.istore 4, 2)) (by decide) rfl ?_
        refine ww_lv (lv' := [(4, .int 0), (0, .ref (b + l0)), (1, .int l1), (2, .int l2), (3, .int l3)]) rfl ?_
        refine r_iconst hB (v := 0) (by decide +kernel : decode cX12_distort 35 = .ok (.iconst 0, 1)) (by decide +kernel) ?_
        refine r_istore hB (by decide +kernel : decode cX12_distort 36 = .ok (.istore 5, 2)) (by decide) rfl ?_
        refine ww_lv (lv' := [(5, .int 0), (4, .int 0), (0, .ref (b + l0)), (1, .int l1), (2, .int l2), (3, .int l3)]) rfl ?_
        exact WW.sub [2, 3, 4, 5, 1, 0] rfl (t_X12_distort_38 hB hf hk)
theorem m_X12_distort (l : Launch) (D : va_G) (cy : Nat → ClassId) (b : Nat) {l0 : Nat} {l1 : Int32} {l2 : Int32} {l3 : Int32} {μ : MS} {z : Int32 × MS} (hf : f_X12_distort l0 l1 l2 l3 μ = some z) : Met l yX12_distort (.code yX12_distort cX12_distort 9 (some .int) :: GW) rmX12_distort (Pw D cy b [.ref (b + l0), .int l1, .int l2, .int l3] μ) (Qw D cy b (some (.int z.1)) (z.2)) rmX12_distort.cells rmX12_distort.slots (fun q => b ≤ q) :=
  met_of (by decide) (Nat.le_of_ble_eq_true rfl) (fun X hB _ => (t_X12_distort_0 hB hf ⟨rfl, rfl⟩))
-- PulseRemoteModel.duration(II)I
set_option maxHeartbeats 4000000 in
set_option maxRecDepth 100000 in
theorem t_X12_duration_0 {X : BX} {D : va_G} {cy : Nat → ClassId} {b : Nat} {r : Option Value} {μ' : MS} (hB : BB X D cy b yX12_duration cX12_duration 3 (some .int) rmX12_duration) {l0 : Nat} {l1 : Int32} {l2 : Int32} {μ : MS} {z : (Int32 × MS)} (hf : f_X12_duration l0 l1 l2 μ = some z) (hk : (fun z : Int32 × MS => r = some (.int z.1) ∧ μ' = z.2) z) : WW X D cy b r μ' 3 0 0 0 [(0, .ref (b + l0)), (1, .int l1), (2, .int l2)] [] μ := by
  unfold f_X12_duration at hf
  refine r_iload_n hB 1 rfl (by decide +kernel : decode cX12_duration 0 = .ok (.iload_n 1, 1)) rfl ?_
  refine r_cSi hB [.int l1] [] (own := "PulseRemoteModel") rfl cmX12_isSlot smX12_isSlot (Or.inl ⟨rfl, k_1367⟩) (by decide) rfl rfl rfl (Nat.le_of_ble_eq_true rfl) (by decide +kernel : decode cX12_duration 1 = .ok (.invokestatic 199, 3)) (fun z hz => m_X12_isSlot _ _ _ _ hz) rfl hf (fun z1 hf => ?_)
  refine r_if_eq hB (tgt := 11) (by decide +kernel : decode cX12_duration 4 = .ok (.ifCond .eq 7, 3)) (by decide) hf (fun _ hf => ?_) (fun _ hf => ?_)
  · refine r_iconst hB (v := (-1)) (by decide +kernel : decode cX12_duration 11 = .ok (.iconst (-1), 1)) (by decide +kernel) ?_
    obtain rfl := Option.some.inj hf
    obtain ⟨rfl, rfl⟩ := hk
    exact r_iret hB (by decide +kernel : decode cX12_duration 12 = .ok (.ireturn, 1))
  · refine r_iload_n hB 2 rfl (by decide +kernel : decode cX12_duration 7 = .ok (.iload_n 2, 1)) rfl ?_
    refine r_if_ge hB (tgt := 13) (by decide +kernel : decode cX12_duration 8 = .ok (.ifCond .ge 5, 3)) (by decide) hf (fun _ hf => ?_) (fun _ hf => ?_)
    · refine r_iload_n hB 2 rfl (by decide +kernel : decode cX12_duration 13 = .ok (.iload_n 2, 1)) rfl ?_
      refine r_aload_n hB 0 rfl (by decide +kernel : decode cX12_duration 14 = .ok (.aload_n 0, 1)) rfl ?_
      refine r_gR hB cf12 0 (by decide) (own := "PulseRemoteModel") rfl (Or.inl k_1115) (by decide +kernel) (by decide +kernel : decode cX12_duration 15 = .ok (.getfield 7, 3)) hf (fun x15 hf => ?_)
      refine r_bipush hB (v := 83) (by decide +kernel : decode cX12_duration 18 = .ok (.bipush 83, 2)) (by decide +kernel) ?_
      refine r_iload_n hB 1 rfl (by decide +kernel : decode cX12_duration 20 = .ok (.iload_n 1, 1)) rfl ?_
      refine r_iadd hB (by decide +kernel : decode cX12_duration 21 = .ok (.iadd, 1)) ?_
      refine r_iald hB (by decide +kernel : decode cX12_duration 22 = .ok (.iaload, 1)) hf (fun x22 hf => ?_)
      refine r_icmp_ge hB (tgt := 40) (by decide +kernel : decode cX12_duration 23 = .ok (.if_icmp .ge 17, 3)) (by decide) hf (fun _ hf => ?_) (fun _ hf => ?_)
      · refine r_bipush hB (v := (-9)) (by decide +kernel : decode cX12_duration 40 = .ok (.bipush (-9), 2)) (by decide +kernel) ?_
        obtain rfl := Option.some.inj hf
        obtain ⟨rfl, rfl⟩ := hk
        exact r_iret hB (by decide +kernel : decode cX12_duration 42 = .ok (.ireturn, 1))
      · refine r_aload_n hB 0 rfl (by decide +kernel : decode cX12_duration 26 = .ok (.aload_n 0, 1)) rfl ?_
        refine r_gR hB cf12 0 (by decide) (own := "PulseRemoteModel") rfl (Or.inl k_1115) (by decide +kernel) (by decide +kernel : decode cX12_duration 27 = .ok (.getfield 7, 3)) hf (fun x27 hf => ?_)
        refine r_iload_n hB 1 rfl (by decide +kernel : decode cX12_duration 30 = .ok (.iload_n 1, 1)) rfl ?_
        refine r_cSi hB [.int l1] [.ref (b + x27)] (own := "PulseRemoteModel") rfl cmX12_trainAt smX12_trainAt (Or.inl ⟨rfl, k_1370⟩) (by decide) rfl rfl rfl (Nat.le_of_ble_eq_true rfl) (by decide +kernel : decode cX12_duration 31 = .ok (.invokestatic 196, 3)) (fun z hz => m_X12_trainAt _ _ _ _ hz) rfl hf (fun z31 hf => ?_)
        refine r_iload_n hB 2 rfl (by decide +kernel : decode cX12_duration 34 = .ok (.iload_n 2, 1)) rfl ?_
        refine r_iadd hB (by decide +kernel : decode cX12_duration 35 = .ok (.iadd, 1)) ?_
        refine r_iald hB (by decide +kernel : decode cX12_duration 36 = .ok (.iaload, 1)) hf (fun x36 hf => ?_)
        refine r_goto hB (tgt := 42) (by decide +kernel : decode cX12_duration 37 = .ok (.goto 5, 3)) (by decide) ?_
        obtain rfl := Option.some.inj hf
        obtain ⟨rfl, rfl⟩ := hk
        exact r_iret hB (by decide +kernel : decode cX12_duration 42 = .ok (.ireturn, 1))
    · refine r_iconst hB (v := (-1)) (by decide +kernel : decode cX12_duration 11 = .ok (.iconst (-1), 1)) (by decide +kernel) ?_
      obtain rfl := Option.some.inj hf
      obtain ⟨rfl, rfl⟩ := hk
      exact r_iret hB (by decide +kernel : decode cX12_duration 12 = .ok (.ireturn, 1))
theorem m_X12_duration (l : Launch) (D : va_G) (cy : Nat → ClassId) (b : Nat) {l0 : Nat} {l1 : Int32} {l2 : Int32} {μ : MS} {z : Int32 × MS} (hf : f_X12_duration l0 l1 l2 μ = some z) : Met l yX12_duration (.code yX12_duration cX12_duration 3 (some .int) :: GW) rmX12_duration (Pw D cy b [.ref (b + l0), .int l1, .int l2] μ) (Qw D cy b (some (.int z.1)) (z.2)) rmX12_duration.cells rmX12_duration.slots (fun q => b ≤ q) :=
  met_of (by decide) (Nat.le_of_ble_eq_true rfl) (fun X hB _ => (t_X12_duration_0 hB hf ⟨rfl, rfl⟩))
-- PulseRemoteModel.length(I)I
set_option maxHeartbeats 4000000 in
set_option maxRecDepth 100000 in
theorem t_X12_length_0 {X : BX} {D : va_G} {cy : Nat → ClassId} {b : Nat} {r : Option Value} {μ' : MS} (hB : BB X D cy b yX12_length cX12_length 2 (some .int) rmX12_length) {l0 : Nat} {l1 : Int32} {μ : MS} {z : (Int32 × MS)} (hf : f_X12_length l0 l1 μ = some z) (hk : (fun z : Int32 × MS => r = some (.int z.1) ∧ μ' = z.2) z) : WW X D cy b r μ' 2 0 0 0 [(0, .ref (b + l0)), (1, .int l1)] [] μ := by
  unfold f_X12_length at hf
  refine r_iload_n hB 1 rfl (by decide +kernel : decode cX12_length 0 = .ok (.iload_n 1, 1)) rfl ?_
  refine r_cSi hB [.int l1] [] (own := "PulseRemoteModel") rfl cmX12_isSlot smX12_isSlot (Or.inl ⟨rfl, k_1367⟩) (by decide) rfl rfl rfl (Nat.le_of_ble_eq_true rfl) (by decide +kernel : decode cX12_length 1 = .ok (.invokestatic 199, 3)) (fun z hz => m_X12_isSlot _ _ _ _ hz) rfl hf (fun z1 hf => ?_)
  refine r_if_eq hB (tgt := 19) (by decide +kernel : decode cX12_length 4 = .ok (.ifCond .eq 15, 3)) (by decide) hf (fun _ hf => ?_) (fun _ hf => ?_)
  · refine r_iconst hB (v := (-1)) (by decide +kernel : decode cX12_length 19 = .ok (.iconst (-1), 1)) (by decide +kernel) ?_
    obtain rfl := Option.some.inj hf
    obtain ⟨rfl, rfl⟩ := hk
    exact r_iret hB (by decide +kernel : decode cX12_length 20 = .ok (.ireturn, 1))
  · refine r_aload_n hB 0 rfl (by decide +kernel : decode cX12_length 7 = .ok (.aload_n 0, 1)) rfl ?_
    refine r_gR hB cf12 0 (by decide) (own := "PulseRemoteModel") rfl (Or.inl k_1115) (by decide +kernel) (by decide +kernel : decode cX12_length 8 = .ok (.getfield 7, 3)) hf (fun x8 hf => ?_)
    refine r_bipush hB (v := 83) (by decide +kernel : decode cX12_length 11 = .ok (.bipush 83, 2)) (by decide +kernel) ?_
    refine r_iload_n hB 1 rfl (by decide +kernel : decode cX12_length 13 = .ok (.iload_n 1, 1)) rfl ?_
    refine r_iadd hB (by decide +kernel : decode cX12_length 14 = .ok (.iadd, 1)) ?_
    refine r_iald hB (by decide +kernel : decode cX12_length 15 = .ok (.iaload, 1)) hf (fun x15 hf => ?_)
    refine r_goto hB (tgt := 20) (by decide +kernel : decode cX12_length 16 = .ok (.goto 4, 3)) (by decide) ?_
    obtain rfl := Option.some.inj hf
    obtain ⟨rfl, rfl⟩ := hk
    exact r_iret hB (by decide +kernel : decode cX12_length 20 = .ok (.ireturn, 1))
theorem m_X12_length (l : Launch) (D : va_G) (cy : Nat → ClassId) (b : Nat) {l0 : Nat} {l1 : Int32} {μ : MS} {z : Int32 × MS} (hf : f_X12_length l0 l1 μ = some z) : Met l yX12_length (.code yX12_length cX12_length 2 (some .int) :: GW) rmX12_length (Pw D cy b [.ref (b + l0), .int l1] μ) (Qw D cy b (some (.int z.1)) (z.2)) rmX12_length.cells rmX12_length.slots (fun q => b ≤ q) :=
  met_of (by decide) (Nat.le_of_ble_eq_true rfl) (fun X hB _ => (t_X12_length_0 hB hf ⟨rfl, rfl⟩))
-- PulseRemoteModel.findsFrames()V
set_option maxHeartbeats 4000000 in
set_option maxRecDepth 100000 in
theorem t_X12_findsFrames_94 {X : BX} {D : va_G} {cy : Nat → ClassId} {b : Nat} {r : Option Value} {μ' : MS} (hB : BB X D cy b yX12_findsFrames cX12_findsFrames 4 none rmX12_findsFrames)  {μ : MS} {z : MS} (hf : f_X12_findsFrames_94  μ = some z) (hk : (fun z : MS => r = none ∧ μ' = z) z) : WW X D cy b r μ' 4 0 0 94 [] [] μ := by
  unfold f_X12_findsFrames_94 at hf
  obtain rfl := Option.some.inj hf
  obtain ⟨rfl, rfl⟩ := hk
  exact r_vret hB (by decide +kernel : decode cX12_findsFrames 94 = .ok (.return_, 1))
set_option maxHeartbeats 4000000 in
set_option maxRecDepth 100000 in
theorem t_X12_findsFrames_88 {X : BX} {D : va_G} {cy : Nat → ClassId} {b : Nat} {r : Option Value} {μ' : MS} (hB : BB X D cy b yX12_findsFrames cX12_findsFrames 4 none rmX12_findsFrames) {l0 : Nat} {l1 : Int32} {l2 : Int32} {μ : MS} {z : ((Nat × Int32 × Int32 × MS) ⊕ MS)} (hf : f_X12_findsFrames_88 l0 l1 l2 μ = some z) (hk : (Sum.elim (fun s : Nat × Int32 × Int32 × MS => WW X D cy b r μ' 4 0 0 9 [(0, .ref (b + s.1)), (1, .int s.2.1), (2, .int s.2.2.1)] [] s.2.2.2) (fun z : MS => r = none ∧ μ' = z)) z) : WW X D cy b r μ' 4 0 0 88 [(0, .ref (b + l0)), (1, .int l1), (2, .int l2)] [] μ := by
  unfold f_X12_findsFrames_88 at hf
  refine r_iincB hB 2 rfl (by decide +kernel : decode cX12_findsFrames 88 = .ok (.iinc 2 2, 3)) (w := 2) (by decide +kernel) (by decide) hf (fun v88 hf => ?_)
  refine ww_lv (lv' := [(2, .int v88), (0, .ref (b + l0)), (1, .int l1)]) rfl ?_
  refine r_goto hB (tgt := 9) (by decide +kernel : decode cX12_findsFrames 91 = .ok (.goto (-82), 3)) (by decide) ?_
  obtain rfl := Option.some.inj hf
  exact WW.sub [1, 2, 0] rfl hk
set_option maxHeartbeats 4000000 in
set_option maxRecDepth 100000 in
theorem t_X12_findsFrames_47 {X : BX} {D : va_G} {cy : Nat → ClassId} {b : Nat} {r : Option Value} {μ' : MS} (hB : BB X D cy b yX12_findsFrames cX12_findsFrames 4 none rmX12_findsFrames) {l0 : Nat} {l1 : Int32} {l2 : Int32} {s0 : Int32} {μ : MS} {z : ((Nat × Int32 × Int32 × MS) ⊕ MS)} (hf : f_X12_findsFrames_47 l0 l1 l2 s0 μ = some z) (hk : (Sum.elim (fun s : Nat × Int32 × Int32 × MS => WW X D cy b r μ' 4 0 0 9 [(0, .ref (b + s.1)), (1, .int s.2.1), (2, .int s.2.2.1)] [] s.2.2.2) (fun z : MS => r = none ∧ μ' = z)) z) : WW X D cy b r μ' 4 0 0 47 [(0, .ref (b + l0)), (1, .int l1), (2, .int l2)] [.int s0] μ := by
  unfold f_X12_findsFrames_47 at hf
  refine r_istore_n hB (by decide +kernel : decode cX12_findsFrames 47 = .ok (.istore_n 3, 1)) rfl (by decide) rfl ?_
  refine ww_lv (lv' := [(3, .int s0), (0, .ref (b + l0)), (1, .int l1), (2, .int l2)]) rfl ?_
  refine r_iload_n hB 0 rfl (by decide +kernel : decode cX12_findsFrames 48 = .ok (.iload_n 3, 1)) rfl ?_
  refine r_if_eq hB (tgt := 88) (by decide +kernel : decode cX12_findsFrames 49 = .ok (.ifCond .eq 39, 3)) (by decide) hf (fun _ hf => ?_) (fun _ hf => ?_)
  · exact WW.sub [1, 2, 3] rfl (t_X12_findsFrames_88 hB hf hk)
  · refine r_aload_n hB 1 rfl (by decide +kernel : decode cX12_findsFrames 52 = .ok (.aload_n 0, 1)) rfl ?_
    refine r_gR hB cf12 19 (by decide) (own := "PulseRemoteModel") rfl (Or.inl k_1134) (by decide +kernel) (by decide +kernel : decode cX12_findsFrames 53 = .ok (.getfield 38, 3)) hf (fun x53 hf => ?_)
    refine r_aload_n hB 1 rfl (by decide +kernel : decode cX12_findsFrames 56 = .ok (.aload_n 0, 1)) rfl ?_
    refine r_gI hB cf12 21 (by decide) (own := "PulseRemoteModel") rfl (Or.inl k_1136) (by decide +kernel) (by decide +kernel : decode cX12_findsFrames 57 = .ok (.getfield 224, 3)) hf (fun x57 hf => ?_)
    refine r_iload_n hB 2 rfl (by decide +kernel : decode cX12_findsFrames 60 = .ok (.iload_n 1, 1)) rfl ?_
    refine r_iast hB (by decide +kernel : decode cX12_findsFrames 61 = .ok (.iastore, 1)) hf (fun m61 hf => ?_)
    refine r_aload_n hB 1 rfl (by decide +kernel : decode cX12_findsFrames 62 = .ok (.aload_n 0, 1)) rfl ?_
    refine r_gR hB cf12 20 (by decide) (own := "PulseRemoteModel") rfl (Or.inl k_1135) (by decide +kernel) (by decide +kernel : decode cX12_findsFrames 63 = .ok (.getfield 41, 3)) hf (fun x63 hf => ?_)
    refine r_aload_n hB 1 rfl (by decide +kernel : decode cX12_findsFrames 66 = .ok (.aload_n 0, 1)) rfl ?_
    refine r_gI hB cf12 21 (by decide) (own := "PulseRemoteModel") rfl (Or.inl k_1136) (by decide +kernel) (by decide +kernel : decode cX12_findsFrames 67 = .ok (.getfield 224, 3)) hf (fun x67 hf => ?_)
    refine r_iload_n hB 3 rfl (by decide +kernel : decode cX12_findsFrames 70 = .ok (.iload_n 2, 1)) rfl ?_
    refine r_iload_n hB 2 rfl (by decide +kernel : decode cX12_findsFrames 71 = .ok (.iload_n 1, 1)) rfl ?_
    refine r_isub hB (by decide +kernel : decode cX12_findsFrames 72 = .ok (.isub, 1)) ?_
    refine r_iast hB (by decide +kernel : decode cX12_findsFrames 73 = .ok (.iastore, 1)) hf (fun m73 hf => ?_)
    refine r_aload_n hB 1 rfl (by decide +kernel : decode cX12_findsFrames 74 = .ok (.aload_n 0, 1)) rfl ?_
    refine r_dup hB (by decide +kernel : decode cX12_findsFrames 75 = .ok (.dup, 1)) rfl ?_
    refine r_gI hB cf12 21 (by decide) (own := "PulseRemoteModel") rfl (Or.inl k_1136) (by decide +kernel) (by decide +kernel : decode cX12_findsFrames 76 = .ok (.getfield 224, 3)) hf (fun x76 hf => ?_)
    refine r_iconst hB (v := 1) (by decide +kernel : decode cX12_findsFrames 79 = .ok (.iconst 1, 1)) (by decide +kernel) ?_
    refine r_iadd hB (by decide +kernel : decode cX12_findsFrames 80 = .ok (.iadd, 1)) ?_
    refine r_pI hB cf12 21 (by decide) (own := "PulseRemoteModel") rfl (Or.inl k_1136) (Or.inl rfl) rfl (by decide +kernel : decode cX12_findsFrames 81 = .ok (.putfield 224, 3)) hf (fun m81 hf => ?_)
    refine r_iload_n hB 3 rfl (by decide +kernel : decode cX12_findsFrames 84 = .ok (.iload_n 2, 1)) rfl ?_
    refine r_iconst hB (v := 1) (by decide +kernel : decode cX12_findsFrames 85 = .ok (.iconst 1, 1)) (by decide +kernel) ?_
    refine r_iadd hB (by decide +kernel : decode cX12_findsFrames 86 = .ok (.iadd, 1)) ?_
    refine r_name hf (fun v87 hf => ?_)
    refine r_istore_n hB (by decide +kernel : decode cX12_findsFrames 87 = .ok (.istore_n 1, 1)) rfl (by decide) rfl ?_
    refine ww_lv (lv' := [(1, .int v87), (3, .int s0), (0, .ref (b + l0)), (2, .int l2)]) rfl ?_
    exact WW.sub [2, 0, 3] rfl (t_X12_findsFrames_88 hB hf hk)
set_option maxHeartbeats 4000000 in
set_option maxRecDepth 100000 in
theorem t_X12_findsFrames_42 {X : BX} {D : va_G} {cy : Nat → ClassId} {b : Nat} {r : Option Value} {μ' : MS} (hB : BB X D cy b yX12_findsFrames cX12_findsFrames 4 none rmX12_findsFrames) {l0 : Nat} {l1 : Int32} {l2 : Int32} {μ : MS} {z : ((Nat × Int32 × Int32 × MS) ⊕ MS)} (hf : f_X12_findsFrames_42 l0 l1 l2 μ = some z) (hk : (Sum.elim (fun s : Nat × Int32 × Int32 × MS => WW X D cy b r μ' 4 0 0 9 [(0, .ref (b + s.1)), (1, .int s.2.1), (2, .int s.2.2.1)] [] s.2.2.2) (fun z : MS => r = none ∧ μ' = z)) z) : WW X D cy b r μ' 4 0 0 42 [(0, .ref (b + l0)), (1, .int l1), (2, .int l2)] [] μ := by
  unfold f_X12_findsFrames_42 at hf
  refine r_iconst hB (v := 1) (by decide +kernel : decode cX12_findsFrames 42 = .ok (.iconst 1, 1)) (by decide +kernel) ?_
  refine r_goto hB (tgt := 47) (by decide +kernel : decode cX12_findsFrames 43 = .ok (.goto 4, 3)) (by decide) ?_
  exact WW.sub [0, 1, 2] rfl (t_X12_findsFrames_47 hB hf hk)
set_option maxHeartbeats 4000000 in
set_option maxRecDepth 100000 in
theorem t_X12_findsFrames_9_b {X : BX} {D : va_G} {cy : Nat → ClassId} {b : Nat} {r : Option Value} {μ' : MS} (hB : BB X D cy b yX12_findsFrames cX12_findsFrames 4 none rmX12_findsFrames) {l0 : Nat} {l1 : Int32} {l2 : Int32} {μ : MS} {z : ((Nat × Int32 × Int32 × MS) ⊕ MS)} (hf : f_X12_findsFrames_9_b l0 l1 l2 μ = some z) (hk : (Sum.elim (fun s : Nat × Int32 × Int32 × MS => WW X D cy b r μ' 4 0 0 9 [(0, .ref (b + s.1)), (1, .int s.2.1), (2, .int s.2.2.1)] [] s.2.2.2) (fun z : MS => r = none ∧ μ' = z)) z) : WW X D cy b r μ' 4 0 0 9 [(0, .ref (b + l0)), (1, .int l1), (2, .int l2)] [] μ := by
  unfold f_X12_findsFrames_9_b at hf
  refine r_iload_n hB 2 rfl (by decide +kernel : decode cX12_findsFrames 9 = .ok (.iload_n 2, 1)) rfl ?_
  refine r_aload_n hB 0 rfl (by decide +kernel : decode cX12_findsFrames 10 = .ok (.aload_n 0, 1)) rfl ?_
  refine r_gI hB cf12 14 (by decide) (own := "PulseRemoteModel") rfl (Or.inl k_1129) (by decide +kernel) (by decide +kernel : decode cX12_findsFrames 11 = .ok (.getfield 193, 3)) hf (fun x11 hf => ?_)
  refine r_icmp_gt hB (tgt := 94) (by decide +kernel : decode cX12_findsFrames 14 = .ok (.if_icmp .gt 80, 3)) (by decide) hf (fun _ hf => ?_) (fun _ hf => ?_)
  · obtain ⟨_, hx0, rfl⟩ := xr_inv hf
    exact WW.sub [] rfl (t_X12_findsFrames_94 hB hx0 hk)
  · refine r_iload_n hB 2 rfl (by decide +kernel : decode cX12_findsFrames 17 = .ok (.iload_n 2, 1)) rfl ?_
    refine r_aload_n hB 0 rfl (by decide +kernel : decode cX12_findsFrames 18 = .ok (.aload_n 0, 1)) rfl ?_
    refine r_gI hB cf12 14 (by decide) (own := "PulseRemoteModel") rfl (Or.inl k_1129) (by decide +kernel) (by decide +kernel : decode cX12_findsFrames 19 = .ok (.getfield 193, 3)) hf (fun x19 hf => ?_)
    refine r_iconst hB (v := 1) (by decide +kernel : decode cX12_findsFrames 22 = .ok (.iconst 1, 1)) (by decide +kernel) ?_
    refine r_isub hB (by decide +kernel : decode cX12_findsFrames 23 = .ok (.isub, 1)) ?_
    refine r_icmp_ge hB (tgt := 42) (by decide +kernel : decode cX12_findsFrames 24 = .ok (.if_icmp .ge 18, 3)) (by decide) hf (fun _ hf => ?_) (fun _ hf => ?_)
    · exact WW.sub [0, 1, 2] rfl (t_X12_findsFrames_42 hB hf hk)
    · refine r_aload_n hB 0 rfl (by decide +kernel : decode cX12_findsFrames 27 = .ok (.aload_n 0, 1)) rfl ?_
      refine r_gR hB cf12 13 (by decide) (own := "PulseRemoteModel") rfl (Or.inl k_1128) (by decide +kernel) (by decide +kernel : decode cX12_findsFrames 28 = .ok (.getfield 26, 3)) hf (fun x28 hf => ?_)
      refine r_iload_n hB 2 rfl (by decide +kernel : decode cX12_findsFrames 31 = .ok (.iload_n 2, 1)) rfl ?_
      refine r_iald hB (by decide +kernel : decode cX12_findsFrames 32 = .ok (.iaload, 1)) hf (fun x32 hf => ?_)
      refine r_aload_n hB 0 rfl (by decide +kernel : decode cX12_findsFrames 33 = .ok (.aload_n 0, 1)) rfl ?_
      refine r_gR hB cf12 0 (by decide) (own := "PulseRemoteModel") rfl (Or.inl k_1115) (by decide +kernel) (by decide +kernel : decode cX12_findsFrames 34 = .ok (.getfield 7, 3)) hf (fun x34 hf => ?_)
      refine r_iconst hB (v := 0) (by decide +kernel : decode cX12_findsFrames 37 = .ok (.iconst 0, 1)) (by decide +kernel) ?_
      refine r_iald hB (by decide +kernel : decode cX12_findsFrames 38 = .ok (.iaload, 1)) hf (fun x38 hf => ?_)
      refine r_icmp_le hB (tgt := 46) (by decide +kernel : decode cX12_findsFrames 39 = .ok (.if_icmp .le 7, 3)) (by decide) hf (fun _ hf => ?_) (fun _ hf => ?_)
      · refine r_iconst hB (v := 0) (by decide +kernel : decode cX12_findsFrames 46 = .ok (.iconst 0, 1)) (by decide +kernel) ?_
        exact WW.sub [0, 1, 2] rfl (t_X12_findsFrames_47 hB hf hk)
      · exact WW.sub [0, 1, 2] rfl (t_X12_findsFrames_42 hB hf hk)
set_option maxHeartbeats 4000000 in
set_option maxRecDepth 100000 in
theorem t_X12_findsFrames_9 {X : BX} {D : va_G} {cy : Nat → ClassId} {b : Nat} {r : Option Value} {μ' : MS} (hB : BB X D cy b yX12_findsFrames cX12_findsFrames 4 none rmX12_findsFrames) {l0 : Nat} {l1 : Int32} {l2 : Int32} {μ : MS} {z : MS} (hf : f_X12_findsFrames_9 l0 l1 l2 μ = some z) (hk : (fun z : MS => r = none ∧ μ' = z) z) : WW X D cy b r μ' 4 0 0 9 [(0, .ref (b + l0)), (1, .int l1), (2, .int l2)] [] μ :=
  lp_ind (P := fun s : Nat × Int32 × Int32 × MS => WW X D cy b r μ' 4 0 0 9 [(0, .ref (b + s.1)), (1, .int s.2.1), (2, .int s.2.2.1)] [] s.2.2.2) (Q := (fun z : MS => r = none ∧ μ' = z)) (fun s z hz hk => t_X12_findsFrames_9_b hB hz hk) (l0, l1, l2, μ) z hf hk
set_option maxHeartbeats 4000000 in
set_option maxRecDepth 100000 in
theorem t_X12_findsFrames_0 {X : BX} {D : va_G} {cy : Nat → ClassId} {b : Nat} {r : Option Value} {μ' : MS} (hB : BB X D cy b yX12_findsFrames cX12_findsFrames 4 none rmX12_findsFrames) {l0 : Nat} {μ : MS} {z : MS} (hf : f_X12_findsFrames l0 μ = some z) (hk : (fun z : MS => r = none ∧ μ' = z) z) : WW X D cy b r μ' 4 0 0 0 [(0, .ref (b + l0))] [] μ := by
  unfold f_X12_findsFrames at hf
  refine r_aload_n hB 0 rfl (by decide +kernel : decode cX12_findsFrames 0 = .ok (.aload_n 0, 1)) rfl ?_
  refine r_iconst hB (v := 0) (by decide +kernel : decode cX12_findsFrames 1 = .ok (.iconst 0, 1)) (by decide +kernel) ?_
  refine r_pI hB cf12 21 (by decide) (own := "PulseRemoteModel") rfl (Or.inl k_1136) (Or.inl rfl) rfl (by decide +kernel : decode cX12_findsFrames 2 = .ok (.putfield 224, 3)) hf (fun m2 hf => ?_)
  refine r_iconst hB (v := 0) (by decide +kernel : decode cX12_findsFrames 5 = .ok (.iconst 0, 1)) (by decide +kernel) ?_
  refine r_istore_n hB (by decide +kernel : decode cX12_findsFrames 6 = .ok (.istore_n 1, 1)) rfl (by decide) rfl ?_
  refine ww_lv (lv' := [(1, .int 0), (0, .ref (b + l0))]) rfl ?_
  refine r_iconst hB (v := 1) (by decide +kernel : decode cX12_findsFrames 7 = .ok (.iconst 1, 1)) (by decide +kernel) ?_
  refine r_istore_n hB (by decide +kernel : decode cX12_findsFrames 8 = .ok (.istore_n 2, 1)) rfl (by decide) rfl ?_
  refine ww_lv (lv' := [(2, .int 1), (1, .int 0), (0, .ref (b + l0))]) rfl ?_
  exact WW.sub [2, 1, 0] rfl (t_X12_findsFrames_9 hB hf hk)
theorem m_X12_findsFrames (l : Launch) (D : va_G) (cy : Nat → ClassId) (b : Nat) {l0 : Nat} {μ : MS} {z : MS} (hf : f_X12_findsFrames l0 μ = some z) : Met l yX12_findsFrames (.code yX12_findsFrames cX12_findsFrames 4 none :: GW) rmX12_findsFrames (Pw D cy b [.ref (b + l0)] μ) (Qw D cy b (none) (z)) rmX12_findsFrames.cells rmX12_findsFrames.slots (fun q => b ≤ q) :=
  met_of (by decide) (Nat.le_of_ble_eq_true rfl) (fun X hB _ => (t_X12_findsFrames_0 hB hf ⟨rfl, rfl⟩))
-- PulseRemoteModel.matches(II)Z
set_option maxHeartbeats 4000000 in
set_option maxRecDepth 100000 in
theorem t_X12_matches_14 {X : BX} {D : va_G} {cy : Nat → ClassId} {b : Nat} {r : Option Value} {μ' : MS} (hB : BB X D cy b yX12_matches cX12_matches 4 (some .boolean) rmX12_matches) {l0 : Nat} {l2 : Int32} {s0 : Int32} {μ : MS} {z : (Int32 × MS)} (hf : f_X12_matches_14 l0 l2 s0 μ = some z) (hk : (fun z : Int32 × MS => r = some (.int z.1) ∧ μ' = z.2) z) : WW X D cy b r μ' 4 0 0 14 [(0, .ref (b + l0)), (2, .int l2)] [.int s0] μ := by
  unfold f_X12_matches_14 at hf
  refine r_istore_n hB (by decide +kernel : decode cX12_matches 14 = .ok (.istore_n 3, 1)) rfl (by decide) rfl ?_
  refine ww_lv (lv' := [(3, .int s0), (0, .ref (b + l0)), (2, .int l2)]) rfl ?_
  refine r_ldc2 hB (v := 100) (own := "PulseRemoteModel") rfl k_1468 (by decide +kernel : decode cX12_matches 15 = .ok (.ldc2_w 227, 3)) ?_
  refine r_iload_n hB 0 rfl (by decide +kernel : decode cX12_matches 18 = .ok (.iload_n 3, 1)) rfl ?_
  refine r_i2l hB (by decide +kernel : decode cX12_matches 19 = .ok (.i2l, 1)) ?_
  refine r_lmul hB (by decide +kernel : decode cX12_matches 20 = .ok (.lmul, 1)) ?_
  refine r_iload_n hB 2 rfl (by decide +kernel : decode cX12_matches 21 = .ok (.iload_n 2, 1)) rfl ?_
  refine r_i2l hB (by decide +kernel : decode cX12_matches 22 = .ok (.i2l, 1)) ?_
  refine r_aload_n hB 1 rfl (by decide +kernel : decode cX12_matches 23 = .ok (.aload_n 0, 1)) rfl ?_
  refine r_gI hB cf12 22 (by decide) (own := "PulseRemoteModel") rfl (Or.inl k_1137) (by decide +kernel) (by decide +kernel : decode cX12_matches 24 = .ok (.getfield 229, 3)) hf (fun x24 hf => ?_)
  refine r_i2l hB (by decide +kernel : decode cX12_matches 27 = .ok (.i2l, 1)) ?_
  refine r_lmul hB (by decide +kernel : decode cX12_matches 28 = .ok (.lmul, 1)) ?_
  refine r_lcmp hB (by decide +kernel : decode cX12_matches 29 = .ok (.lcmp, 1)) ?_
  refine r_if_gt hB (tgt := 37) (by decide +kernel : decode cX12_matches 30 = .ok (.ifCond .gt 7, 3)) (by decide) hf (fun _ hf => ?_) (fun _ hf => ?_)
  · refine r_iconst hB (v := 0) (by decide +kernel : decode cX12_matches 37 = .ok (.iconst 0, 1)) (by decide +kernel) ?_
    obtain rfl := Option.some.inj hf
    obtain ⟨rfl, rfl⟩ := hk
    exact r_zret hB (Or.inl rfl) (by decide +kernel : decode cX12_matches 38 = .ok (.ireturn, 1))
  · refine r_iconst hB (v := 1) (by decide +kernel : decode cX12_matches 33 = .ok (.iconst 1, 1)) (by decide +kernel) ?_
    refine r_goto hB (tgt := 38) (by decide +kernel : decode cX12_matches 34 = .ok (.goto 4, 3)) (by decide) ?_
    obtain rfl := Option.some.inj hf
    obtain ⟨rfl, rfl⟩ := hk
    exact r_zret hB (Or.inr rfl) (by decide +kernel : decode cX12_matches 38 = .ok (.ireturn, 1))
set_option maxHeartbeats 4000000 in
set_option maxRecDepth 100000 in
theorem t_X12_matches_0 {X : BX} {D : va_G} {cy : Nat → ClassId} {b : Nat} {r : Option Value} {μ' : MS} (hB : BB X D cy b yX12_matches cX12_matches 4 (some .boolean) rmX12_matches) {l0 : Nat} {l1 : Int32} {l2 : Int32} {μ : MS} {z : (Int32 × MS)} (hf : f_X12_matches l0 l1 l2 μ = some z) (hk : (fun z : Int32 × MS => r = some (.int z.1) ∧ μ' = z.2) z) : WW X D cy b r μ' 4 0 0 0 [(0, .ref (b + l0)), (1, .int l1), (2, .int l2)] [] μ := by
  unfold f_X12_matches at hf
  refine r_iload_n hB 1 rfl (by decide +kernel : decode cX12_matches 0 = .ok (.iload_n 1, 1)) rfl ?_
  refine r_iload_n hB 2 rfl (by decide +kernel : decode cX12_matches 1 = .ok (.iload_n 2, 1)) rfl ?_
  refine r_icmp_le hB (tgt := 11) (by decide +kernel : decode cX12_matches 2 = .ok (.if_icmp .le 9, 3)) (by decide) hf (fun _ hf => ?_) (fun _ hf => ?_)
  · refine r_iload_n hB 2 rfl (by decide +kernel : decode cX12_matches 11 = .ok (.iload_n 2, 1)) rfl ?_
    refine r_iload_n hB 1 rfl (by decide +kernel : decode cX12_matches 12 = .ok (.iload_n 1, 1)) rfl ?_
    refine r_isub hB (by decide +kernel : decode cX12_matches 13 = .ok (.isub, 1)) ?_
    exact WW.sub [0, 2] rfl (t_X12_matches_14 hB hf hk)
  · refine r_iload_n hB 1 rfl (by decide +kernel : decode cX12_matches 5 = .ok (.iload_n 1, 1)) rfl ?_
    refine r_iload_n hB 2 rfl (by decide +kernel : decode cX12_matches 6 = .ok (.iload_n 2, 1)) rfl ?_
    refine r_isub hB (by decide +kernel : decode cX12_matches 7 = .ok (.isub, 1)) ?_
    refine r_goto hB (tgt := 14) (by decide +kernel : decode cX12_matches 8 = .ok (.goto 6, 3)) (by decide) ?_
    exact WW.sub [0, 2] rfl (t_X12_matches_14 hB hf hk)
theorem m_X12_matches (l : Launch) (D : va_G) (cy : Nat → ClassId) (b : Nat) {l0 : Nat} {l1 : Int32} {l2 : Int32} {μ : MS} {z : Int32 × MS} (hf : f_X12_matches l0 l1 l2 μ = some z) : Met l yX12_matches (.code yX12_matches cX12_matches 4 (some .boolean) :: GW) rmX12_matches (Pw D cy b [.ref (b + l0), .int l1, .int l2] μ) (Qw D cy b (some (.int z.1)) (z.2)) rmX12_matches.cells rmX12_matches.slots (fun q => b ≤ q) :=
  met_of (by decide) (Nat.le_of_ble_eq_true rfl) (fun X hB _ => (t_X12_matches_0 hB hf ⟨rfl, rfl⟩))
-- PulseRemoteModel.match(III)Z
set_option maxHeartbeats 4000000 in
set_option maxRecDepth 100000 in
theorem t_X12_match_45 {X : BX} {D : va_G} {cy : Nat → ClassId} {b : Nat} {r : Option Value} {μ' : MS} (hB : BB X D cy b yX12_match cX12_match 6 (some .boolean) rmX12_match) {l4 : Int32} {μ : MS} {z : (Int32 × MS)} (hf : f_X12_match_45 l4 μ = some z) (hk : (fun z : Int32 × MS => r = some (.int z.1) ∧ μ' = z.2) z) : WW X D cy b r μ' 6 0 0 45 [(4, .int l4)] [] μ := by
  unfold f_X12_match_45 at hf
  refine r_iload hB 0 rfl (by decide +kernel : decode cX12_match 45 = .ok (.iload 4, 2)) ?_
  obtain ⟨hv, rfl⟩ := rZ_inv hf
  obtain ⟨rfl, rfl⟩ := hk
  exact r_zret hB hv (by decide +kernel : decode cX12_match 47 = .ok (.ireturn, 1))
set_option maxHeartbeats 4000000 in
set_option maxRecDepth 100000 in
theorem t_X12_match_37 {X : BX} {D : va_G} {cy : Nat → ClassId} {b : Nat} {r : Option Value} {μ' : MS} (hB : BB X D cy b yX12_match cX12_match 6 (some .boolean) rmX12_match) {l0 : Nat} {l2 : Int32} {l3 : Int32} {l5 : Int32} {s0 : Int32} {μ : MS} {z : ((Nat × Int32 × Int32 × Int32 × Int32 × MS) ⊕ (Int32 × MS))} (hf : f_X12_match_37 l0 l2 l3 l5 s0 μ = some z) (hk : (Sum.elim (fun s : Nat × Int32 × Int32 × Int32 × Int32 × MS => WW X D cy b r μ' 6 0 0 6 [(0, .ref (b + s.1)), (2, .int s.2.1), (3, .int s.2.2.1), (4, .int s.2.2.2.1), (5, .int s.2.2.2.2.1)] [] s.2.2.2.2.2) (fun z : Int32 × MS => r = some (.int z.1) ∧ μ' = z.2)) z) : WW X D cy b r μ' 6 0 0 37 [(0, .ref (b + l0)), (2, .int l2), (3, .int l3), (5, .int l5)] [.int s0] μ := by
  unfold f_X12_match_37 at hf
  refine r_istore hB (by decide +kernel : decode cX12_match 37 = .ok (.istore 4, 2)) (by decide) rfl ?_
  refine ww_lv (lv' := [(4, .int s0), (0, .ref (b + l0)), (2, .int l2), (3, .int l3), (5, .int l5)]) rfl ?_
  refine r_iincB hB 4 rfl (by decide +kernel : decode cX12_match 39 = .ok (.iinc 5 2, 3)) (w := 2) (by decide +kernel) (by decide) hf (fun v39 hf => ?_)
  refine ww_lv (lv' := [(5, .int v39), (4, .int s0), (0, .ref (b + l0)), (2, .int l2), (3, .int l3)]) rfl ?_
  refine r_goto hB (tgt := 6) (by decide +kernel : decode cX12_match 42 = .ok (.goto (-36), 3)) (by decide) ?_
  obtain rfl := Option.some.inj hf
  exact WW.sub [2, 3, 4, 1, 0] rfl hk
set_option maxHeartbeats 4000000 in
set_option maxRecDepth 100000 in
theorem t_X12_match_36 {X : BX} {D : va_G} {cy : Nat → ClassId} {b : Nat} {r : Option Value} {μ' : MS} (hB : BB X D cy b yX12_match cX12_match 6 (some .boolean) rmX12_match) {l0 : Nat} {l2 : Int32} {l3 : Int32} {l5 : Int32} {μ : MS} {z : ((Nat × Int32 × Int32 × Int32 × Int32 × MS) ⊕ (Int32 × MS))} (hf : f_X12_match_36 l0 l2 l3 l5 μ = some z) (hk : (Sum.elim (fun s : Nat × Int32 × Int32 × Int32 × Int32 × MS => WW X D cy b r μ' 6 0 0 6 [(0, .ref (b + s.1)), (2, .int s.2.1), (3, .int s.2.2.1), (4, .int s.2.2.2.1), (5, .int s.2.2.2.2.1)] [] s.2.2.2.2.2) (fun z : Int32 × MS => r = some (.int z.1) ∧ μ' = z.2)) z) : WW X D cy b r μ' 6 0 0 36 [(0, .ref (b + l0)), (2, .int l2), (3, .int l3), (5, .int l5)] [] μ := by
  unfold f_X12_match_36 at hf
  refine r_iconst hB (v := 0) (by decide +kernel : decode cX12_match 36 = .ok (.iconst 0, 1)) (by decide +kernel) ?_
  exact WW.sub [0, 1, 2, 3] rfl (t_X12_match_37 hB hf hk)
set_option maxHeartbeats 4000000 in
set_option maxRecDepth 100000 in
theorem t_X12_match_6_b {X : BX} {D : va_G} {cy : Nat → ClassId} {b : Nat} {r : Option Value} {μ' : MS} (hB : BB X D cy b yX12_match cX12_match 6 (some .boolean) rmX12_match) {l0 : Nat} {l2 : Int32} {l3 : Int32} {l4 : Int32} {l5 : Int32} {μ : MS} {z : ((Nat × Int32 × Int32 × Int32 × Int32 × MS) ⊕ (Int32 × MS))} (hf : f_X12_match_6_b l0 l2 l3 l4 l5 μ = some z) (hk : (Sum.elim (fun s : Nat × Int32 × Int32 × Int32 × Int32 × MS => WW X D cy b r μ' 6 0 0 6 [(0, .ref (b + s.1)), (2, .int s.2.1), (3, .int s.2.2.1), (4, .int s.2.2.2.1), (5, .int s.2.2.2.2.1)] [] s.2.2.2.2.2) (fun z : Int32 × MS => r = some (.int z.1) ∧ μ' = z.2)) z) : WW X D cy b r μ' 6 0 0 6 [(0, .ref (b + l0)), (2, .int l2), (3, .int l3), (4, .int l4), (5, .int l5)] [] μ := by
  unfold f_X12_match_6_b at hf
  refine r_iload hB 4 rfl (by decide +kernel : decode cX12_match 6 = .ok (.iload 5, 2)) ?_
  refine r_iload_n hB 1 rfl (by decide +kernel : decode cX12_match 8 = .ok (.iload_n 2, 1)) rfl ?_
  refine r_icmp_ge hB (tgt := 45) (by decide +kernel : decode cX12_match 9 = .ok (.if_icmp .ge 36, 3)) (by decide) hf (fun _ hf => ?_) (fun _ hf => ?_)
  · obtain ⟨_, hx0, rfl⟩ := xr_inv hf
    exact WW.sub [3] rfl (t_X12_match_45 hB hx0 hk)
  · refine r_iload hB 3 rfl (by decide +kernel : decode cX12_match 12 = .ok (.iload 4, 2)) ?_
    refine r_if_eq hB (tgt := 36) (by decide +kernel : decode cX12_match 14 = .ok (.ifCond .eq 22, 3)) (by decide) hf (fun _ hf => ?_) (fun _ hf => ?_)
    · exact WW.sub [0, 1, 2, 4] rfl (t_X12_match_36 hB hf hk)
    · refine r_aload_n hB 0 rfl (by decide +kernel : decode cX12_match 17 = .ok (.aload_n 0, 1)) rfl ?_
      refine r_aload_n hB 0 rfl (by decide +kernel : decode cX12_match 18 = .ok (.aload_n 0, 1)) rfl ?_
      refine r_gR hB cf12 13 (by decide) (own := "PulseRemoteModel") rfl (Or.inl k_1128) (by decide +kernel) (by decide +kernel : decode cX12_match 19 = .ok (.getfield 26, 3)) hf (fun x19 hf => ?_)
      refine r_iload hB 4 rfl (by decide +kernel : decode cX12_match 22 = .ok (.iload 5, 2)) ?_
      refine r_iald hB (by decide +kernel : decode cX12_match 24 = .ok (.iaload, 1)) hf (fun x24 hf => ?_)
      refine r_iload_n hB 2 rfl (by decide +kernel : decode cX12_match 25 = .ok (.iload_n 3, 1)) rfl ?_
      refine r_cVi hB [.int x24, .int l3] [] cf12 (own := "PulseRemoteModel") rfl cmX12_matches imX12_matches (Or.inl k_1464) (by decide) rfl rfl rfl (Nat.le_of_ble_eq_true rfl) (by decide +kernel : decode cX12_match 26 = .ok (.invokevirtual 232, 3)) (fun z hz => m_X12_matches _ _ _ _ hz) rfl hf (fun z26 hf => ?_)
      refine r_if_eq hB (tgt := 36) (by decide +kernel : decode cX12_match 29 = .ok (.ifCond .eq 7, 3)) (by decide) hf (fun _ hf => ?_) (fun _ hf => ?_)
      · exact WW.sub [0, 1, 2, 4] rfl (t_X12_match_36 hB hf hk)
      · refine r_iconst hB (v := 1) (by decide +kernel : decode cX12_match 32 = .ok (.iconst 1, 1)) (by decide +kernel) ?_
        refine r_goto hB (tgt := 37) (by decide +kernel : decode cX12_match 33 = .ok (.goto 4, 3)) (by decide) ?_
        exact WW.sub [0, 1, 2, 4] rfl (t_X12_match_37 hB hf hk)
set_option maxHeartbeats 4000000 in
set_option maxRecDepth 100000 in
theorem t_X12_match_6 {X : BX} {D : va_G} {cy : Nat → ClassId} {b : Nat} {r : Option Value} {μ' : MS} (hB : BB X D cy b yX12_match cX12_match 6 (some .boolean) rmX12_match) {l0 : Nat} {l2 : Int32} {l3 : Int32} {l4 : Int32} {l5 : Int32} {μ : MS} {z : (Int32 × MS)} (hf : f_X12_match_6 l0 l2 l3 l4 l5 μ = some z) (hk : (fun z : Int32 × MS => r = some (.int z.1) ∧ μ' = z.2) z) : WW X D cy b r μ' 6 0 0 6 [(0, .ref (b + l0)), (2, .int l2), (3, .int l3), (4, .int l4), (5, .int l5)] [] μ :=
  lp_ind (P := fun s : Nat × Int32 × Int32 × Int32 × Int32 × MS => WW X D cy b r μ' 6 0 0 6 [(0, .ref (b + s.1)), (2, .int s.2.1), (3, .int s.2.2.1), (4, .int s.2.2.2.1), (5, .int s.2.2.2.2.1)] [] s.2.2.2.2.2) (Q := (fun z : Int32 × MS => r = some (.int z.1) ∧ μ' = z.2)) (fun s z hz hk => t_X12_match_6_b hB hz hk) (l0, l2, l3, l4, l5, μ) z hf hk
set_option maxHeartbeats 4000000 in
set_option maxRecDepth 100000 in
theorem t_X12_match_0 {X : BX} {D : va_G} {cy : Nat → ClassId} {b : Nat} {r : Option Value} {μ' : MS} (hB : BB X D cy b yX12_match cX12_match 6 (some .boolean) rmX12_match) {l0 : Nat} {l1 : Int32} {l2 : Int32} {l3 : Int32} {μ : MS} {z : (Int32 × MS)} (hf : f_X12_match l0 l1 l2 l3 μ = some z) (hk : (fun z : Int32 × MS => r = some (.int z.1) ∧ μ' = z.2) z) : WW X D cy b r μ' 6 0 0 0 [(0, .ref (b + l0)), (1, .int l1), (2, .int l2), (3, .int l3)] [] μ := by
  unfold f_X12_match at hf
  refine r_iconst hB (v := 1) (by decide +kernel : decode cX12_match 0 = .ok (.iconst 1, 1)) (by decide +kernel) ?_
  refine r_istore hB (by decide +kernel : decode cX12_match 1 = .ok (.istore 4, 2)) (by decide) rfl ?_
  refine ww_lv (lv' := [(4, .int 1), (0, .ref (b + l0)), (1, .int l1), (2, .int l2), (3, .int l3)]) rfl ?_
  refine r_iload_n hB 2 rfl (by decide +kernel : decode cX12_match 3 = .ok (.iload_n 1, 1)) rfl ?_
  refine r_istore hB (by decide +kernel : decode cX12_match 4 = .ok (.istore 5, 2)) (by decide) rfl ?_
  refine ww_lv (lv' := [(5, .int l1), (4, .int 1), (0, .ref (b + l0)), (1, .int l1), (2, .int l2), (3, .int l3)]) rfl ?_
  exact WW.sub [2, 4, 5, 1, 0] rfl (t_X12_match_6 hB hf hk)
theorem m_X12_match (l : Launch) (D : va_G) (cy : Nat → ClassId) (b : Nat) {l0 : Nat} {l1 : Int32} {l2 : Int32} {l3 : Int32} {μ : MS} {z : Int32 × MS} (hf : f_X12_match l0 l1 l2 l3 μ = some z) : Met l yX12_match (.code yX12_match cX12_match 6 (some .boolean) :: GW) rmX12_match (Pw D cy b [.ref (b + l0), .int l1, .int l2, .int l3] μ) (Qw D cy b (some (.int z.1)) (z.2)) rmX12_match.cells rmX12_match.slots (fun q => b ≤ q) :=
  met_of (by decide) (Nat.le_of_ble_eq_true rfl) (fun X hB _ => (t_X12_match_0 hB hf ⟨rfl, rfl⟩))
-- PulseRemoteModel.ordered(II)I
set_option maxHeartbeats 4000000 in
set_option maxRecDepth 100000 in
theorem t_X12_ordered_78 {X : BX} {D : va_G} {cy : Nat → ClassId} {b : Nat} {r : Option Value} {μ' : MS} (hB : BB X D cy b yX12_ordered cX12_ordered 7 (some .int) rmX12_ordered) {l3 : Int32} {μ : MS} {z : (Int32 × MS)} (hf : f_X12_ordered_78 l3 μ = some z) (hk : (fun z : Int32 × MS => r = some (.int z.1) ∧ μ' = z.2) z) : WW X D cy b r μ' 7 0 0 78 [(3, .int l3)] [] μ := by
  unfold f_X12_ordered_78 at hf
  refine r_iload_n hB 0 rfl (by decide +kernel : decode cX12_ordered 78 = .ok (.iload_n 3, 1)) rfl ?_
  obtain rfl := Option.some.inj hf
  obtain ⟨rfl, rfl⟩ := hk
  exact r_iret hB (by decide +kernel : decode cX12_ordered 79 = .ok (.ireturn, 1))
set_option maxHeartbeats 4000000 in
set_option maxRecDepth 100000 in
theorem t_X12_ordered_69 {X : BX} {D : va_G} {cy : Nat → ClassId} {b : Nat} {r : Option Value} {μ' : MS} (hB : BB X D cy b yX12_ordered cX12_ordered 7 (some .int) rmX12_ordered) {l0 : Nat} {l1 : Int32} {l2 : Int32} {l4 : Int32} {l5 : Int32} {s0 : Int32} {s1 : Int32} {s2 : Int32} {μ : MS} {z : ((Nat × Int32 × Int32 × Int32 × Int32 × Int32 × MS) ⊕ (Int32 × MS))} (hf : f_X12_ordered_69 l0 l1 l2 l4 l5 s0 s1 s2 μ = some z) (hk : (Sum.elim (fun s : Nat × Int32 × Int32 × Int32 × Int32 × Int32 × MS => WW X D cy b r μ' 7 0 0 19 [(0, .ref (b + s.1)), (1, .int s.2.1), (2, .int s.2.2.1), (3, .int s.2.2.2.1), (4, .int s.2.2.2.2.1), (5, .int s.2.2.2.2.2.1)] [] s.2.2.2.2.2.2) (fun z : Int32 × MS => r = some (.int z.1) ∧ μ' = z.2)) z) : WW X D cy b r μ' 7 0 0 69 [(0, .ref (b + l0)), (1, .int l1), (2, .int l2), (4, .int l4), (5, .int l5)] [.int s0, .int s1, .int s2] μ := by
  unfold f_X12_ordered_69 at hf
  refine r_ishl hB (by decide +kernel : decode cX12_ordered 69 = .ok (.ishl, 1)) ?_
  refine r_ior hB (by decide +kernel : decode cX12_ordered 70 = .ok (.ior, 1)) ?_
  refine r_name hf (fun v71 hf => ?_)
  refine r_istore_n hB (by decide +kernel : decode cX12_ordered 71 = .ok (.istore_n 3, 1)) rfl (by decide) rfl ?_
  refine ww_lv (lv' := [(3, .int v71), (0, .ref (b + l0)), (1, .int l1), (2, .int l2), (4, .int l4), (5, .int l5)]) rfl ?_
  refine r_iincB hB 5 rfl (by decide +kernel : decode cX12_ordered 72 = .ok (.iinc 5 1, 3)) (w := 1) (by decide +kernel) (by decide) hf (fun v72 hf => ?_)
  refine ww_lv (lv' := [(5, .int v72), (3, .int v71), (0, .ref (b + l0)), (1, .int l1), (2, .int l2), (4, .int l4)]) rfl ?_
  refine r_goto hB (tgt := 19) (by decide +kernel : decode cX12_ordered 75 = .ok (.goto (-56), 3)) (by decide) ?_
  obtain rfl := Option.some.inj hf
  exact WW.sub [2, 3, 4, 1, 5, 0] rfl hk
set_option maxHeartbeats 4000000 in
set_option maxRecDepth 100000 in
theorem t_X12_ordered_19_b {X : BX} {D : va_G} {cy : Nat → ClassId} {b : Nat} {r : Option Value} {μ' : MS} (hB : BB X D cy b yX12_ordered cX12_ordered 7 (some .int) rmX12_ordered) {l0 : Nat} {l1 : Int32} {l2 : Int32} {l3 : Int32} {l4 : Int32} {l5 : Int32} {μ : MS} {z : ((Nat × Int32 × Int32 × Int32 × Int32 × Int32 × MS) ⊕ (Int32 × MS))} (hf : f_X12_ordered_19_b l0 l1 l2 l3 l4 l5 μ = some z) (hk : (Sum.elim (fun s : Nat × Int32 × Int32 × Int32 × Int32 × Int32 × MS => WW X D cy b r μ' 7 0 0 19 [(0, .ref (b + s.1)), (1, .int s.2.1), (2, .int s.2.2.1), (3, .int s.2.2.2.1), (4, .int s.2.2.2.2.1), (5, .int s.2.2.2.2.2.1)] [] s.2.2.2.2.2.2) (fun z : Int32 × MS => r = some (.int z.1) ∧ μ' = z.2)) z) : WW X D cy b r μ' 7 0 0 19 [(0, .ref (b + l0)), (1, .int l1), (2, .int l2), (3, .int l3), (4, .int l4), (5, .int l5)] [] μ := by
  unfold f_X12_ordered_19_b at hf
  refine r_iload hB 5 rfl (by decide +kernel : decode cX12_ordered 19 = .ok (.iload 5, 2)) ?_
  refine r_iload hB 4 rfl (by decide +kernel : decode cX12_ordered 21 = .ok (.iload 4, 2)) ?_
  refine r_icmp_ge hB (tgt := 78) (by decide +kernel : decode cX12_ordered 23 = .ok (.if_icmp .ge 55, 3)) (by decide) hf (fun _ hf => ?_) (fun _ hf => ?_)
  · obtain ⟨_, hx0, rfl⟩ := xr_inv hf
    exact WW.sub [3] rfl (t_X12_ordered_78 hB hx0 hk)
  · refine r_iload_n hB 2 rfl (by decide +kernel : decode cX12_ordered 26 = .ok (.iload_n 2, 1)) rfl ?_
    refine r_iload hB 4 rfl (by decide +kernel : decode cX12_ordered 27 = .ok (.iload 4, 2)) ?_
    refine r_iconst hB (v := 1) (by decide +kernel : decode cX12_ordered 29 = .ok (.iconst 1, 1)) (by decide +kernel) ?_
    refine r_isub hB (by decide +kernel : decode cX12_ordered 30 = .ok (.isub, 1)) ?_
    refine r_iload hB 5 rfl (by decide +kernel : decode cX12_ordered 31 = .ok (.iload 5, 2)) ?_
    refine r_isub hB (by decide +kernel : decode cX12_ordered 33 = .ok (.isub, 1)) ?_
    refine r_ishr hB (by decide +kernel : decode cX12_ordered 34 = .ok (.ishr, 1)) ?_
    refine r_iconst hB (v := 1) (by decide +kernel : decode cX12_ordered 35 = .ok (.iconst 1, 1)) (by decide +kernel) ?_
    refine r_iand hB (by decide +kernel : decode cX12_ordered 36 = .ok (.iand, 1)) ?_
    refine r_name hf (fun v37 hf => ?_)
    refine r_istore hB (by decide +kernel : decode cX12_ordered 37 = .ok (.istore 6, 2)) (by decide) rfl ?_
    refine ww_lv (lv' := [(6, .int v37), (0, .ref (b + l0)), (1, .int l1), (2, .int l2), (3, .int l3), (4, .int l4), (5, .int l5)]) rfl ?_
    refine r_iload_n hB 4 rfl (by decide +kernel : decode cX12_ordered 39 = .ok (.iload_n 3, 1)) rfl ?_
    refine r_iload hB 0 rfl (by decide +kernel : decode cX12_ordered 40 = .ok (.iload 6, 2)) ?_
    refine r_aload_n hB 1 rfl (by decide +kernel : decode cX12_ordered 42 = .ok (.aload_n 0, 1)) rfl ?_
    refine r_gR hB cf12 0 (by decide) (own := "PulseRemoteModel") rfl (Or.inl k_1115) (by decide +kernel) (by decide +kernel : decode cX12_ordered 43 = .ok (.getfield 7, 3)) hf (fun x43 hf => ?_)
    refine r_iload_n hB 2 rfl (by decide +kernel : decode cX12_ordered 46 = .ok (.iload_n 1, 1)) rfl ?_
    refine r_cSi hB [.int l1] [.ref (b + x43), .int v37, .int l3] (own := "PulseRemoteModel") rfl cmX12_at smX12_at (Or.inl ⟨rfl, k_1244⟩) (by decide) rfl rfl rfl (Nat.le_of_ble_eq_true rfl) (by decide +kernel : decode cX12_ordered 47 = .ok (.invokestatic 72, 3)) (fun z hz => m_X12_at _ _ _ _ hz) rfl hf (fun z47 hf => ?_)
    refine r_bipush hB (v := 7) (by decide +kernel : decode cX12_ordered 50 = .ok (.bipush 7, 2)) (by decide +kernel) ?_
    refine r_iadd hB (by decide +kernel : decode cX12_ordered 52 = .ok (.iadd, 1)) ?_
    refine r_iald hB (by decide +kernel : decode cX12_ordered 53 = .ok (.iaload, 1)) hf (fun x53 hf => ?_)
    refine r_if_ne hB (tgt := 67) (by decide +kernel : decode cX12_ordered 54 = .ok (.ifCond .ne 13, 3)) (by decide) hf (fun _ hf => ?_) (fun _ hf => ?_)
    · refine r_iload hB 5 rfl (by decide +kernel : decode cX12_ordered 57 = .ok (.iload 4, 2)) ?_
      refine r_iconst hB (v := 1) (by decide +kernel : decode cX12_ordered 59 = .ok (.iconst 1, 1)) (by decide +kernel) ?_
      refine r_isub hB (by decide +kernel : decode cX12_ordered 60 = .ok (.isub, 1)) ?_
      refine r_iload hB 6 rfl (by decide +kernel : decode cX12_ordered 61 = .ok (.iload 5, 2)) ?_
      refine r_isub hB (by decide +kernel : decode cX12_ordered 63 = .ok (.isub, 1)) ?_
      refine r_goto hB (tgt := 69) (by decide +kernel : decode cX12_ordered 64 = .ok (.goto 5, 3)) (by decide) ?_
      exact WW.sub [1, 2, 3, 5, 6] rfl (t_X12_ordered_69 hB hf hk)
    · refine r_iload hB 6 rfl (by decide +kernel : decode cX12_ordered 67 = .ok (.iload 5, 2)) ?_
      exact WW.sub [1, 2, 3, 5, 6] rfl (t_X12_ordered_69 hB hf hk)
set_option maxHeartbeats 4000000 in
set_option maxRecDepth 100000 in
theorem t_X12_ordered_19 {X : BX} {D : va_G} {cy : Nat → ClassId} {b : Nat} {r : Option Value} {μ' : MS} (hB : BB X D cy b yX12_ordered cX12_ordered 7 (some .int) rmX12_ordered) {l0 : Nat} {l1 : Int32} {l2 : Int32} {l3 : Int32} {l4 : Int32} {l5 : Int32} {μ : MS} {z : (Int32 × MS)} (hf : f_X12_ordered_19 l0 l1 l2 l3 l4 l5 μ = some z) (hk : (fun z : Int32 × MS => r = some (.int z.1) ∧ μ' = z.2) z) : WW X D cy b r μ' 7 0 0 19 [(0, .ref (b + l0)), (1, .int l1), (2, .int l2), (3, .int l3), (4, .int l4), (5, .int l5)] [] μ :=
  lp_ind (P := fun s : Nat × Int32 × Int32 × Int32 × Int32 × Int32 × MS => WW X D cy b r μ' 7 0 0 19 [(0, .ref (b + s.1)), (1, .int s.2.1), (2, .int s.2.2.1), (3, .int s.2.2.2.1), (4, .int s.2.2.2.2.1), (5, .int s.2.2.2.2.2.1)] [] s.2.2.2.2.2.2) (Q := (fun z : Int32 × MS => r = some (.int z.1) ∧ μ' = z.2)) (fun s z hz hk => t_X12_ordered_19_b hB hz hk) (l0, l1, l2, l3, l4, l5, μ) z hf hk
set_option maxHeartbeats 4000000 in
set_option maxRecDepth 100000 in
theorem t_X12_ordered_0 {X : BX} {D : va_G} {cy : Nat → ClassId} {b : Nat} {r : Option Value} {μ' : MS} (hB : BB X D cy b yX12_ordered cX12_ordered 7 (some .int) rmX12_ordered) {l0 : Nat} {l1 : Int32} {l2 : Int32} {μ : MS} {z : (Int32 × MS)} (hf : f_X12_ordered l0 l1 l2 μ = some z) (hk : (fun z : Int32 × MS => r = some (.int z.1) ∧ μ' = z.2) z) : WW X D cy b r μ' 7 0 0 0 [(0, .ref (b + l0)), (1, .int l1), (2, .int l2)] [] μ := by
  unfold f_X12_ordered at hf
  refine r_iconst hB (v := 0) (by decide +kernel : decode cX12_ordered 0 = .ok (.iconst 0, 1)) (by decide +kernel) ?_
  refine r_istore_n hB (by decide +kernel : decode cX12_ordered 1 = .ok (.istore_n 3, 1)) rfl (by decide) rfl ?_
  refine ww_lv (lv' := [(3, .int 0), (0, .ref (b + l0)), (1, .int l1), (2, .int l2)]) rfl ?_
  refine r_aload_n hB 1 rfl (by decide +kernel : decode cX12_ordered 2 = .ok (.aload_n 0, 1)) rfl ?_
  refine r_gR hB cf12 0 (by decide) (own := "PulseRemoteModel") rfl (Or.inl k_1115) (by decide +kernel) (by decide +kernel : decode cX12_ordered 3 = .ok (.getfield 7, 3)) hf (fun x3 hf => ?_)
  refine r_iload_n hB 2 rfl (by decide +kernel : decode cX12_ordered 6 = .ok (.iload_n 1, 1)) rfl ?_
  refine r_cSi hB [.int l1] [.ref (b + x3)] (own := "PulseRemoteModel") rfl cmX12_at smX12_at (Or.inl ⟨rfl, k_1244⟩) (by decide) rfl rfl rfl (Nat.le_of_ble_eq_true rfl) (by decide +kernel : decode cX12_ordered 7 = .ok (.invokestatic 72, 3)) (fun z hz => m_X12_at _ _ _ _ hz) rfl hf (fun z7 hf => ?_)
  refine r_bipush hB (v := 6) (by decide +kernel : decode cX12_ordered 10 = .ok (.bipush 6, 2)) (by decide +kernel) ?_
  refine r_iadd hB (by decide +kernel : decode cX12_ordered 12 = .ok (.iadd, 1)) ?_
  refine r_iald hB (by decide +kernel : decode cX12_ordered 13 = .ok (.iaload, 1)) hf (fun x13 hf => ?_)
  refine r_istore hB (by decide +kernel : decode cX12_ordered 14 = .ok (.istore 4, 2)) (by decide) rfl ?_
  refine ww_lv (lv' := [(4, .int x13), (3, .int 0), (0, .ref (b + l0)), (1, .int l1), (2, .int l2)]) rfl ?_
  refine r_iconst hB (v := 0) (by decide +kernel : decode cX12_ordered 16 = .ok (.iconst 0, 1)) (by decide +kernel) ?_
  refine r_istore hB (by decide +kernel : decode cX12_ordered 17 = .ok (.istore 5, 2)) (by decide) rfl ?_
  refine ww_lv (lv' := [(5, .int 0), (4, .int x13), (3, .int 0), (0, .ref (b + l0)), (1, .int l1), (2, .int l2)]) rfl ?_
  exact WW.sub [3, 4, 5, 2, 1, 0] rfl (t_X12_ordered_19 hB hf hk)
theorem m_X12_ordered (l : Launch) (D : va_G) (cy : Nat → ClassId) (b : Nat) {l0 : Nat} {l1 : Int32} {l2 : Int32} {μ : MS} {z : Int32 × MS} (hf : f_X12_ordered l0 l1 l2 μ = some z) : Met l yX12_ordered (.code yX12_ordered cX12_ordered 7 (some .int) :: GW) rmX12_ordered (Pw D cy b [.ref (b + l0), .int l1, .int l2] μ) (Qw D cy b (some (.int z.1)) (z.2)) rmX12_ordered.cells rmX12_ordered.slots (fun q => b ≤ q) :=
  met_of (by decide) (Nat.le_of_ble_eq_true rfl) (fun X hB _ => (t_X12_ordered_0 hB hf ⟨rfl, rfl⟩))
-- PulseRemoteModel.readsBits(II)I
set_option maxHeartbeats 4000000 in
set_option maxRecDepth 100000 in
theorem t_X12_readsBits_105 {X : BX} {D : va_G} {cy : Nat → ClassId} {b : Nat} {r : Option Value} {μ' : MS} (hB : BB X D cy b yX12_readsBits cX12_readsBits 7 (some .int) rmX12_readsBits) {l3 : Int32} {μ : MS} {z : (Int32 × MS)} (hf : f_X12_readsBits_105 l3 μ = some z) (hk : (fun z : Int32 × MS => r = some (.int z.1) ∧ μ' = z.2) z) : WW X D cy b r μ' 7 0 0 105 [(3, .int l3)] [] μ := by
  unfold f_X12_readsBits_105 at hf
  refine r_iload_n hB 0 rfl (by decide +kernel : decode cX12_readsBits 105 = .ok (.iload_n 3, 1)) rfl ?_
  obtain rfl := Option.some.inj hf
  obtain ⟨rfl, rfl⟩ := hk
  exact r_iret hB (by decide +kernel : decode cX12_readsBits 106 = .ok (.ireturn, 1))
set_option maxHeartbeats 4000000 in
set_option maxRecDepth 100000 in
theorem t_X12_readsBits_98 {X : BX} {D : va_G} {cy : Nat → ClassId} {b : Nat} {r : Option Value} {μ' : MS} (hB : BB X D cy b yX12_readsBits cX12_readsBits 7 (some .int) rmX12_readsBits) {l0 : Nat} {l1 : Int32} {l2 : Int32} {l4 : Int32} {s0 : Int32} {μ : MS} {z : ((Nat × Int32 × Int32 × Int32 × Int32 × MS) ⊕ (Int32 × MS))} (hf : f_X12_readsBits_98 l0 l1 l2 l4 s0 μ = some z) (hk : (Sum.elim (fun s : Nat × Int32 × Int32 × Int32 × Int32 × MS => WW X D cy b r μ' 7 0 0 5 [(0, .ref (b + s.1)), (1, .int s.2.1), (2, .int s.2.2.1), (3, .int s.2.2.2.1), (4, .int s.2.2.2.2.1)] [] s.2.2.2.2.2) (fun z : Int32 × MS => r = some (.int z.1) ∧ μ' = z.2)) z) : WW X D cy b r μ' 7 0 0 98 [(0, .ref (b + l0)), (1, .int l1), (2, .int l2), (4, .int l4)] [.int s0] μ := by
  unfold f_X12_readsBits_98 at hf
  refine r_istore_n hB (by decide +kernel : decode cX12_readsBits 98 = .ok (.istore_n 3, 1)) rfl (by decide) rfl ?_
  refine ww_lv (lv' := [(3, .int s0), (0, .ref (b + l0)), (1, .int l1), (2, .int l2), (4, .int l4)]) rfl ?_
  refine r_iincB hB 4 rfl (by decide +kernel : decode cX12_readsBits 99 = .ok (.iinc 4 1, 3)) (w := 1) (by decide +kernel) (by decide) hf (fun v99 hf => ?_)
  refine ww_lv (lv' := [(4, .int v99), (3, .int s0), (0, .ref (b + l0)), (1, .int l1), (2, .int l2)]) rfl ?_
  refine r_goto hB (tgt := 5) (by decide +kernel : decode cX12_readsBits 102 = .ok (.goto (-97), 3)) (by decide) ?_
  obtain rfl := Option.some.inj hf
  exact WW.sub [2, 3, 4, 1, 0] rfl hk
set_option maxHeartbeats 4000000 in
set_option maxRecDepth 100000 in
theorem t_X12_readsBits_5_b {X : BX} {D : va_G} {cy : Nat → ClassId} {b : Nat} {r : Option Value} {μ' : MS} (hB : BB X D cy b yX12_readsBits cX12_readsBits 7 (some .int) rmX12_readsBits) {l0 : Nat} {l1 : Int32} {l2 : Int32} {l3 : Int32} {l4 : Int32} {μ : MS} {z : ((Nat × Int32 × Int32 × Int32 × Int32 × MS) ⊕ (Int32 × MS))} (hf : f_X12_readsBits_5_b l0 l1 l2 l3 l4 μ = some z) (hk : (Sum.elim (fun s : Nat × Int32 × Int32 × Int32 × Int32 × MS => WW X D cy b r μ' 7 0 0 5 [(0, .ref (b + s.1)), (1, .int s.2.1), (2, .int s.2.2.1), (3, .int s.2.2.2.1), (4, .int s.2.2.2.2.1)] [] s.2.2.2.2.2) (fun z : Int32 × MS => r = some (.int z.1) ∧ μ' = z.2)) z) : WW X D cy b r μ' 7 0 0 5 [(0, .ref (b + l0)), (1, .int l1), (2, .int l2), (3, .int l3), (4, .int l4)] [] μ := by
  unfold f_X12_readsBits_5_b at hf
  refine r_iload hB 4 rfl (by decide +kernel : decode cX12_readsBits 5 = .ok (.iload 4, 2)) ?_
  refine r_aload_n hB 0 rfl (by decide +kernel : decode cX12_readsBits 7 = .ok (.aload_n 0, 1)) rfl ?_
  refine r_gR hB cf12 0 (by decide) (own := "PulseRemoteModel") rfl (Or.inl k_1115) (by decide +kernel) (by decide +kernel : decode cX12_readsBits 8 = .ok (.getfield 7, 3)) hf (fun x8 hf => ?_)
  refine r_iload_n hB 1 rfl (by decide +kernel : decode cX12_readsBits 11 = .ok (.iload_n 1, 1)) rfl ?_
  refine r_cSi hB [.int l1] [.ref (b + x8), .int l4] (own := "PulseRemoteModel") rfl cmX12_at smX12_at (Or.inl ⟨rfl, k_1244⟩) (by decide) rfl rfl rfl (Nat.le_of_ble_eq_true rfl) (by decide +kernel : decode cX12_readsBits 12 = .ok (.invokestatic 72, 3)) (fun z hz => m_X12_at _ _ _ _ hz) rfl hf (fun z12 hf => ?_)
  refine r_bipush hB (v := 6) (by decide +kernel : decode cX12_readsBits 15 = .ok (.bipush 6, 2)) (by decide +kernel) ?_
  refine r_iadd hB (by decide +kernel : decode cX12_readsBits 17 = .ok (.iadd, 1)) ?_
  refine r_iald hB (by decide +kernel : decode cX12_readsBits 18 = .ok (.iaload, 1)) hf (fun x18 hf => ?_)
  refine r_icmp_ge hB (tgt := 105) (by decide +kernel : decode cX12_readsBits 19 = .ok (.if_icmp .ge 86, 3)) (by decide) hf (fun _ hf => ?_) (fun _ hf => ?_)
  · obtain ⟨_, hx0, rfl⟩ := xr_inv hf
    exact WW.sub [3] rfl (t_X12_readsBits_105 hB hx0 hk)
  · refine r_iload_n hB 3 rfl (by decide +kernel : decode cX12_readsBits 22 = .ok (.iload_n 3, 1)) rfl ?_
    refine r_if_lt hB (tgt := 105) (by decide +kernel : decode cX12_readsBits 23 = .ok (.ifCond .lt 82, 3)) (by decide) hf (fun _ hf => ?_) (fun _ hf => ?_)
    · obtain ⟨_, hx0, rfl⟩ := xr_inv hf
      exact WW.sub [3] rfl (t_X12_readsBits_105 hB hx0 hk)
    · refine r_aload_n hB 0 rfl (by decide +kernel : decode cX12_readsBits 26 = .ok (.aload_n 0, 1)) rfl ?_
      refine r_gR hB cf12 13 (by decide) (own := "PulseRemoteModel") rfl (Or.inl k_1128) (by decide +kernel) (by decide +kernel : decode cX12_readsBits 27 = .ok (.getfield 26, 3)) hf (fun x27 hf => ?_)
      refine r_iload_n hB 2 rfl (by decide +kernel : decode cX12_readsBits 30 = .ok (.iload_n 2, 1)) rfl ?_
      refine r_iconst hB (v := 2) (by decide +kernel : decode cX12_readsBits 31 = .ok (.iconst 2, 1)) (by decide +kernel) ?_
      refine r_iload hB 4 rfl (by decide +kernel : decode cX12_readsBits 32 = .ok (.iload 4, 2)) ?_
      refine r_imul hB (by decide +kernel : decode cX12_readsBits 34 = .ok (.imul, 1)) ?_
      refine r_iadd hB (by decide +kernel : decode cX12_readsBits 35 = .ok (.iadd, 1)) ?_
      refine r_iald hB (by decide +kernel : decode cX12_readsBits 36 = .ok (.iaload, 1)) hf (fun x36 hf => ?_)
      refine r_istore hB (by decide +kernel : decode cX12_readsBits 37 = .ok (.istore 5, 2)) (by decide) rfl ?_
      refine ww_lv (lv' := [(5, .int x36), (0, .ref (b + l0)), (1, .int l1), (2, .int l2), (3, .int l3), (4, .int l4)]) rfl ?_
      refine r_aload_n hB 1 rfl (by decide +kernel : decode cX12_readsBits 39 = .ok (.aload_n 0, 1)) rfl ?_
      refine r_iload hB 0 rfl (by decide +kernel : decode cX12_readsBits 40 = .ok (.iload 5, 2)) ?_
      refine r_aload_n hB 1 rfl (by decide +kernel : decode cX12_readsBits 42 = .ok (.aload_n 0, 1)) rfl ?_
      refine r_gR hB cf12 0 (by decide) (own := "PulseRemoteModel") rfl (Or.inl k_1115) (by decide +kernel) (by decide +kernel : decode cX12_readsBits 43 = .ok (.getfield 7, 3)) hf (fun x43 hf => ?_)
      refine r_iload_n hB 2 rfl (by decide +kernel : decode cX12_readsBits 46 = .ok (.iload_n 1, 1)) rfl ?_
      refine r_cSi hB [.int l1] [.ref (b + x43), .int x36, .ref (b + l0)] (own := "PulseRemoteModel") rfl cmX12_at smX12_at (Or.inl ⟨rfl, k_1244⟩) (by decide) rfl rfl rfl (Nat.le_of_ble_eq_true rfl) (by decide +kernel : decode cX12_readsBits 47 = .ok (.invokestatic 72, 3)) (fun z hz => m_X12_at _ _ _ _ hz) rfl hf (fun z47 hf => ?_)
      refine r_iconst hB (v := 4) (by decide +kernel : decode cX12_readsBits 50 = .ok (.iconst 4, 1)) (by decide +kernel) ?_
      refine r_iadd hB (by decide +kernel : decode cX12_readsBits 51 = .ok (.iadd, 1)) ?_
      refine r_iald hB (by decide +kernel : decode cX12_readsBits 52 = .ok (.iaload, 1)) hf (fun x52 hf => ?_)
      refine r_cVi hB [.int x36, .int x52] [] cf12 (own := "PulseRemoteModel") rfl cmX12_matches imX12_matches (Or.inl k_1464) (by decide) rfl rfl rfl (Nat.le_of_ble_eq_true rfl) (by decide +kernel : decode cX12_readsBits 53 = .ok (.invokevirtual 232, 3)) (fun z hz => m_X12_matches _ _ _ _ hz) rfl hf (fun z53 hf => ?_)
      refine r_istore hB (by decide +kernel : decode cX12_readsBits 56 = .ok (.istore 6, 2)) (by decide) rfl ?_
      refine ww_lv (lv' := [(6, .int z53.1), (5, .int x36), (0, .ref (b + l0)), (1, .int l1), (2, .int l2), (3, .int l3), (4, .int l4)]) rfl ?_
      refine r_iload hB 0 rfl (by decide +kernel : decode cX12_readsBits 58 = .ok (.iload 6, 2)) ?_
      refine r_if_eq hB (tgt := 69) (by decide +kernel : decode cX12_readsBits 60 = .ok (.ifCond .eq 9, 3)) (by decide) hf (fun _ hf => ?_) (fun _ hf => ?_)
      · refine r_aload_n hB 2 rfl (by decide +kernel : decode cX12_readsBits 69 = .ok (.aload_n 0, 1)) rfl ?_
        refine r_iload hB 1 rfl (by decide +kernel : decode cX12_readsBits 70 = .ok (.iload 5, 2)) ?_
        refine r_aload_n hB 2 rfl (by decide +kernel : decode cX12_readsBits 72 = .ok (.aload_n 0, 1)) rfl ?_
        refine r_gR hB cf12 0 (by decide) (own := "PulseRemoteModel") rfl (Or.inl k_1115) (by decide +kernel) (by decide +kernel : decode cX12_readsBits 73 = .ok (.getfield 7, 3)) hf (fun x73 hf => ?_)
        refine r_iload_n hB 3 rfl (by decide +kernel : decode cX12_readsBits 76 = .ok (.iload_n 1, 1)) rfl ?_
        refine r_cSi hB [.int l1] [.ref (b + x73), .int x36, .ref (b + l0)] (own := "PulseRemoteModel") rfl cmX12_at smX12_at (Or.inl ⟨rfl, k_1244⟩) (by decide) rfl rfl rfl (Nat.le_of_ble_eq_true rfl) (by decide +kernel : decode cX12_readsBits 77 = .ok (.invokestatic 72, 3)) (fun z hz => m_X12_at _ _ _ _ hz) rfl hf (fun z77 hf => ?_)
        refine r_iconst hB (v := 5) (by decide +kernel : decode cX12_readsBits 80 = .ok (.iconst 5, 1)) (by decide +kernel) ?_
        refine r_iadd hB (by decide +kernel : decode cX12_readsBits 81 = .ok (.iadd, 1)) ?_
        refine r_iald hB (by decide +kernel : decode cX12_readsBits 82 = .ok (.iaload, 1)) hf (fun x82 hf => ?_)
        refine r_cVi hB [.int x36, .int x82] [] cf12 (own := "PulseRemoteModel") rfl cmX12_matches imX12_matches (Or.inl k_1464) (by decide) rfl rfl rfl (Nat.le_of_ble_eq_true rfl) (by decide +kernel : decode cX12_readsBits 83 = .ok (.invokevirtual 232, 3)) (fun z hz => m_X12_matches _ _ _ _ hz) rfl hf (fun z83 hf => ?_)
        refine r_if_eq hB (tgt := 97) (by decide +kernel : decode cX12_readsBits 86 = .ok (.ifCond .eq 11, 3)) (by decide) hf (fun _ hf => ?_) (fun _ hf => ?_)
        · refine r_iconst hB (v := (-1)) (by decide +kernel : decode cX12_readsBits 97 = .ok (.iconst (-1), 1)) (by decide +kernel) ?_
          exact WW.sub [2, 3, 4, 6] rfl (t_X12_readsBits_98 hB hf hk)
        · refine r_iconst hB (v := 2) (by decide +kernel : decode cX12_readsBits 89 = .ok (.iconst 2, 1)) (by decide +kernel) ?_
          refine r_iload_n hB 5 rfl (by decide +kernel : decode cX12_readsBits 90 = .ok (.iload_n 3, 1)) rfl ?_
          refine r_imul hB (by decide +kernel : decode cX12_readsBits 91 = .ok (.imul, 1)) ?_
          refine r_iconst hB (v := 1) (by decide +kernel : decode cX12_readsBits 92 = .ok (.iconst 1, 1)) (by decide +kernel) ?_
          refine r_iadd hB (by decide +kernel : decode cX12_readsBits 93 = .ok (.iadd, 1)) ?_
          refine r_goto hB (tgt := 98) (by decide +kernel : decode cX12_readsBits 94 = .ok (.goto 4, 3)) (by decide) ?_
          exact WW.sub [2, 3, 4, 6] rfl (t_X12_readsBits_98 hB hf hk)
      · refine r_iconst hB (v := 2) (by decide +kernel : decode cX12_readsBits 63 = .ok (.iconst 2, 1)) (by decide +kernel) ?_
        refine r_iload_n hB 5 rfl (by decide +kernel : decode cX12_readsBits 64 = .ok (.iload_n 3, 1)) rfl ?_
        refine r_imul hB (by decide +kernel : decode cX12_readsBits 65 = .ok (.imul, 1)) ?_
        refine r_goto hB (tgt := 98) (by decide +kernel : decode cX12_readsBits 66 = .ok (.goto 32, 3)) (by decide) ?_
        exact WW.sub [2, 3, 4, 6] rfl (t_X12_readsBits_98 hB hf hk)
set_option maxHeartbeats 4000000 in
set_option maxRecDepth 100000 in
theorem t_X12_readsBits_5 {X : BX} {D : va_G} {cy : Nat → ClassId} {b : Nat} {r : Option Value} {μ' : MS} (hB : BB X D cy b yX12_readsBits cX12_readsBits 7 (some .int) rmX12_readsBits) {l0 : Nat} {l1 : Int32} {l2 : Int32} {l3 : Int32} {l4 : Int32} {μ : MS} {z : (Int32 × MS)} (hf : f_X12_readsBits_5 l0 l1 l2 l3 l4 μ = some z) (hk : (fun z : Int32 × MS => r = some (.int z.1) ∧ μ' = z.2) z) : WW X D cy b r μ' 7 0 0 5 [(0, .ref (b + l0)), (1, .int l1), (2, .int l2), (3, .int l3), (4, .int l4)] [] μ :=
  lp_ind (P := fun s : Nat × Int32 × Int32 × Int32 × Int32 × MS => WW X D cy b r μ' 7 0 0 5 [(0, .ref (b + s.1)), (1, .int s.2.1), (2, .int s.2.2.1), (3, .int s.2.2.2.1), (4, .int s.2.2.2.2.1)] [] s.2.2.2.2.2) (Q := (fun z : Int32 × MS => r = some (.int z.1) ∧ μ' = z.2)) (fun s z hz hk => t_X12_readsBits_5_b hB hz hk) (l0, l1, l2, l3, l4, μ) z hf hk
set_option maxHeartbeats 4000000 in
set_option maxRecDepth 100000 in
theorem t_X12_readsBits_0 {X : BX} {D : va_G} {cy : Nat → ClassId} {b : Nat} {r : Option Value} {μ' : MS} (hB : BB X D cy b yX12_readsBits cX12_readsBits 7 (some .int) rmX12_readsBits) {l0 : Nat} {l1 : Int32} {l2 : Int32} {μ : MS} {z : (Int32 × MS)} (hf : f_X12_readsBits l0 l1 l2 μ = some z) (hk : (fun z : Int32 × MS => r = some (.int z.1) ∧ μ' = z.2) z) : WW X D cy b r μ' 7 0 0 0 [(0, .ref (b + l0)), (1, .int l1), (2, .int l2)] [] μ := by
  unfold f_X12_readsBits at hf
  refine r_iconst hB (v := 0) (by decide +kernel : decode cX12_readsBits 0 = .ok (.iconst 0, 1)) (by decide +kernel) ?_
  refine r_istore_n hB (by decide +kernel : decode cX12_readsBits 1 = .ok (.istore_n 3, 1)) rfl (by decide) rfl ?_
  refine ww_lv (lv' := [(3, .int 0), (0, .ref (b + l0)), (1, .int l1), (2, .int l2)]) rfl ?_
  refine r_iconst hB (v := 0) (by decide +kernel : decode cX12_readsBits 2 = .ok (.iconst 0, 1)) (by decide +kernel) ?_
  refine r_istore hB (by decide +kernel : decode cX12_readsBits 3 = .ok (.istore 4, 2)) (by decide) rfl ?_
  refine ww_lv (lv' := [(4, .int 0), (3, .int 0), (0, .ref (b + l0)), (1, .int l1), (2, .int l2)]) rfl ?_
  exact WW.sub [2, 3, 4, 1, 0] rfl (t_X12_readsBits_5 hB hf hk)
theorem m_X12_readsBits (l : Launch) (D : va_G) (cy : Nat → ClassId) (b : Nat) {l0 : Nat} {l1 : Int32} {l2 : Int32} {μ : MS} {z : Int32 × MS} (hf : f_X12_readsBits l0 l1 l2 μ = some z) : Met l yX12_readsBits (.code yX12_readsBits cX12_readsBits 7 (some .int) :: GW) rmX12_readsBits (Pw D cy b [.ref (b + l0), .int l1, .int l2] μ) (Qw D cy b (some (.int z.1)) (z.2)) rmX12_readsBits.cells rmX12_readsBits.slots (fun q => b ≤ q) :=
  met_of (by decide) (Nat.le_of_ble_eq_true rfl) (fun X hB _ => (t_X12_readsBits_0 hB hf ⟨rfl, rfl⟩))
-- PulseRemoteModel.goesOn(IIIIII)I
set_option maxHeartbeats 4000000 in
set_option maxRecDepth 100000 in
theorem t_X12_goesOn_0 {X : BX} {D : va_G} {cy : Nat → ClassId} {b : Nat} {r : Option Value} {μ' : MS} (hB : BB X D cy b yX12_goesOn cX12_goesOn 9 (some .int) rmX12_goesOn) {l0 : Nat} {l1 : Int32} {l2 : Int32} {l3 : Int32} {l4 : Int32} {l5 : Int32} {l6 : Int32} {μ : MS} {z : (Int32 × MS)} (hf : f_X12_goesOn l0 l1 l2 l3 l4 l5 l6 μ = some z) (hk : (fun z : Int32 × MS => r = some (.int z.1) ∧ μ' = z.2) z) : WW X D cy b r μ' 9 0 0 0 [(0, .ref (b + l0)), (1, .int l1), (2, .int l2), (3, .int l3), (4, .int l4), (5, .int l5), (6, .int l6)] [] μ := by
  unfold f_X12_goesOn at hf
  refine r_aload_n hB 0 rfl (by decide +kernel : decode cX12_goesOn 0 = .ok (.aload_n 0, 1)) rfl ?_
  refine r_gR hB cf12 0 (by decide) (own := "PulseRemoteModel") rfl (Or.inl k_1115) (by decide +kernel) (by decide +kernel : decode cX12_goesOn 1 = .ok (.getfield 7, 3)) hf (fun x1 hf => ?_)
  refine r_iload_n hB 1 rfl (by decide +kernel : decode cX12_goesOn 4 = .ok (.iload_n 1, 1)) rfl ?_
  refine r_cSi hB [.int l1] [.ref (b + x1)] (own := "PulseRemoteModel") rfl cmX12_at smX12_at (Or.inl ⟨rfl, k_1244⟩) (by decide) rfl rfl rfl (Nat.le_of_ble_eq_true rfl) (by decide +kernel : decode cX12_goesOn 5 = .ok (.invokestatic 72, 3)) (fun z hz => m_X12_at _ _ _ _ hz) rfl hf (fun z5 hf => ?_)
  refine r_iconst hB (v := 3) (by decide +kernel : decode cX12_goesOn 8 = .ok (.iconst 3, 1)) (by decide +kernel) ?_
  refine r_iadd hB (by decide +kernel : decode cX12_goesOn 9 = .ok (.iadd, 1)) ?_
  refine r_iald hB (by decide +kernel : decode cX12_goesOn 10 = .ok (.iaload, 1)) hf (fun x10 hf => ?_)
  refine r_istore hB (by decide +kernel : decode cX12_goesOn 11 = .ok (.istore 7, 2)) (by decide) rfl ?_
  refine ww_lv (lv' := [(7, .int x10), (0, .ref (b + l0)), (1, .int l1), (2, .int l2), (3, .int l3), (4, .int l4), (5, .int l5), (6, .int l6)]) rfl ?_
  refine r_aload_n hB 1 rfl (by decide +kernel : decode cX12_goesOn 13 = .ok (.aload_n 0, 1)) rfl ?_
  refine r_gR hB cf12 0 (by decide) (own := "PulseRemoteModel") rfl (Or.inl k_1115) (by decide +kernel) (by decide +kernel : decode cX12_goesOn 14 = .ok (.getfield 7, 3)) hf (fun x14 hf => ?_)
  refine r_iload_n hB 2 rfl (by decide +kernel : decode cX12_goesOn 17 = .ok (.iload_n 1, 1)) rfl ?_
  refine r_cSi hB [.int l1] [.ref (b + x14)] (own := "PulseRemoteModel") rfl cmX12_at smX12_at (Or.inl ⟨rfl, k_1244⟩) (by decide) rfl rfl rfl (Nat.le_of_ble_eq_true rfl) (by decide +kernel : decode cX12_goesOn 18 = .ok (.invokestatic 72, 3)) (fun z hz => m_X12_at _ _ _ _ hz) rfl hf (fun z18 hf => ?_)
  refine r_iconst hB (v := 2) (by decide +kernel : decode cX12_goesOn 21 = .ok (.iconst 2, 1)) (by decide +kernel) ?_
  refine r_iadd hB (by decide +kernel : decode cX12_goesOn 22 = .ok (.iadd, 1)) ?_
  refine r_iald hB (by decide +kernel : decode cX12_goesOn 23 = .ok (.iaload, 1)) hf (fun x23 hf => ?_)
  refine r_istore hB (by decide +kernel : decode cX12_goesOn 24 = .ok (.istore 8, 2)) (by decide) rfl ?_
  refine ww_lv (lv' := [(8, .int x23), (7, .int x10), (0, .ref (b + l0)), (1, .int l1), (2, .int l2), (3, .int l3), (4, .int l4), (5, .int l5), (6, .int l6)]) rfl ?_
  refine r_iload_n hB 5 rfl (by decide +kernel : decode cX12_goesOn 26 = .ok (.iload_n 3, 1)) rfl ?_
  refine r_if_ne hB (tgt := 101) (by decide +kernel : decode cX12_goesOn 27 = .ok (.ifCond .ne 74, 3)) (by decide) hf (fun _ hf => ?_) (fun _ hf => ?_)
  · refine r_iload hB 8 rfl (by decide +kernel : decode cX12_goesOn 30 = .ok (.iload 6, 2)) ?_
    refine r_if_ne hB (tgt := 61) (by decide +kernel : decode cX12_goesOn 32 = .ok (.ifCond .ne 29, 3)) (by decide) hf (fun _ hf => ?_) (fun _ hf => ?_)
    · refine r_aload_n hB 2 rfl (by decide +kernel : decode cX12_goesOn 35 = .ok (.aload_n 0, 1)) rfl ?_
      refine r_aload_n hB 2 rfl (by decide +kernel : decode cX12_goesOn 36 = .ok (.aload_n 0, 1)) rfl ?_
      refine r_gR hB cf12 13 (by decide) (own := "PulseRemoteModel") rfl (Or.inl k_1128) (by decide +kernel) (by decide +kernel : decode cX12_goesOn 37 = .ok (.getfield 26, 3)) hf (fun x37 hf => ?_)
      refine r_iload_n hB 4 rfl (by decide +kernel : decode cX12_goesOn 40 = .ok (.iload_n 2, 1)) rfl ?_
      refine r_iconst hB (v := 1) (by decide +kernel : decode cX12_goesOn 41 = .ok (.iconst 1, 1)) (by decide +kernel) ?_
      refine r_iadd hB (by decide +kernel : decode cX12_goesOn 42 = .ok (.iadd, 1)) ?_
      refine r_iald hB (by decide +kernel : decode cX12_goesOn 43 = .ok (.iaload, 1)) hf (fun x43 hf => ?_)
      refine r_iload hB 0 rfl (by decide +kernel : decode cX12_goesOn 44 = .ok (.iload 8, 2)) ?_
      refine r_iload hB 1 rfl (by decide +kernel : decode cX12_goesOn 46 = .ok (.iload 7, 2)) ?_
      refine r_iadd hB (by decide +kernel : decode cX12_goesOn 48 = .ok (.iadd, 1)) ?_
      refine r_cVi hB [.int x43, .int (x23 + x10)] [] cf12 (own := "PulseRemoteModel") rfl cmX12_matches imX12_matches (Or.inl k_1464) (by decide) rfl rfl rfl (Nat.le_of_ble_eq_true rfl) (by decide +kernel : decode cX12_goesOn 49 = .ok (.invokevirtual 232, 3)) (fun z hz => m_X12_matches _ _ _ _ hz) rfl hf (fun z49 hf => ?_)
      refine r_if_eq hB (tgt := 59) (by decide +kernel : decode cX12_goesOn 52 = .ok (.ifCond .eq 7, 3)) (by decide) hf (fun _ hf => ?_) (fun _ hf => ?_)
      · refine r_iconst hB (v := (-1)) (by decide +kernel : decode cX12_goesOn 59 = .ok (.iconst (-1), 1)) (by decide +kernel) ?_
        obtain rfl := Option.some.inj hf
        obtain ⟨rfl, rfl⟩ := hk
        exact r_iret hB (by decide +kernel : decode cX12_goesOn 60 = .ok (.ireturn, 1))
      · refine r_iconst hB (v := 2) (by decide +kernel : decode cX12_goesOn 55 = .ok (.iconst 2, 1)) (by decide +kernel) ?_
        refine r_goto hB (tgt := 60) (by decide +kernel : decode cX12_goesOn 56 = .ok (.goto 4, 3)) (by decide) ?_
        obtain rfl := Option.some.inj hf
        obtain ⟨rfl, rfl⟩ := hk
        exact r_iret hB (by decide +kernel : decode cX12_goesOn 60 = .ok (.ireturn, 1))
    · refine r_aload_n hB 2 rfl (by decide +kernel : decode cX12_goesOn 61 = .ok (.aload_n 0, 1)) rfl ?_
      refine r_aload_n hB 2 rfl (by decide +kernel : decode cX12_goesOn 62 = .ok (.aload_n 0, 1)) rfl ?_
      refine r_gR hB cf12 13 (by decide) (own := "PulseRemoteModel") rfl (Or.inl k_1128) (by decide +kernel) (by decide +kernel : decode cX12_goesOn 63 = .ok (.getfield 26, 3)) hf (fun x63 hf => ?_)
      refine r_iload_n hB 4 rfl (by decide +kernel : decode cX12_goesOn 66 = .ok (.iload_n 2, 1)) rfl ?_
      refine r_iconst hB (v := 1) (by decide +kernel : decode cX12_goesOn 67 = .ok (.iconst 1, 1)) (by decide +kernel) ?_
      refine r_iadd hB (by decide +kernel : decode cX12_goesOn 68 = .ok (.iadd, 1)) ?_
      refine r_iald hB (by decide +kernel : decode cX12_goesOn 69 = .ok (.iaload, 1)) hf (fun x69 hf => ?_)
      refine r_iload hB 0 rfl (by decide +kernel : decode cX12_goesOn 70 = .ok (.iload 8, 2)) ?_
      refine r_cVi hB [.int x69, .int x23] [] cf12 (own := "PulseRemoteModel") rfl cmX12_matches imX12_matches (Or.inl k_1464) (by decide) rfl rfl rfl (Nat.le_of_ble_eq_true rfl) (by decide +kernel : decode cX12_goesOn 72 = .ok (.invokevirtual 232, 3)) (fun z hz => m_X12_matches _ _ _ _ hz) rfl hf (fun z72 hf => ?_)
      refine r_if_eq hB (tgt := 99) (by decide +kernel : decode cX12_goesOn 75 = .ok (.ifCond .eq 24, 3)) (by decide) hf (fun _ hf => ?_) (fun _ hf => ?_)
      · refine r_iconst hB (v := (-1)) (by decide +kernel : decode cX12_goesOn 99 = .ok (.iconst (-1), 1)) (by decide +kernel) ?_
        obtain rfl := Option.some.inj hf
        obtain ⟨rfl, rfl⟩ := hk
        exact r_iret hB (by decide +kernel : decode cX12_goesOn 100 = .ok (.ireturn, 1))
      · refine r_aload_n hB 2 rfl (by decide +kernel : decode cX12_goesOn 78 = .ok (.aload_n 0, 1)) rfl ?_
        refine r_aload_n hB 2 rfl (by decide +kernel : decode cX12_goesOn 79 = .ok (.aload_n 0, 1)) rfl ?_
        refine r_gR hB cf12 13 (by decide) (own := "PulseRemoteModel") rfl (Or.inl k_1128) (by decide +kernel) (by decide +kernel : decode cX12_goesOn 80 = .ok (.getfield 26, 3)) hf (fun x80 hf => ?_)
        refine r_iload_n hB 4 rfl (by decide +kernel : decode cX12_goesOn 83 = .ok (.iload_n 2, 1)) rfl ?_
        refine r_iconst hB (v := 2) (by decide +kernel : decode cX12_goesOn 84 = .ok (.iconst 2, 1)) (by decide +kernel) ?_
        refine r_iadd hB (by decide +kernel : decode cX12_goesOn 85 = .ok (.iadd, 1)) ?_
        refine r_iald hB (by decide +kernel : decode cX12_goesOn 86 = .ok (.iaload, 1)) hf (fun x86 hf => ?_)
        refine r_iload hB 1 rfl (by decide +kernel : decode cX12_goesOn 87 = .ok (.iload 7, 2)) ?_
        refine r_cVi hB [.int x86, .int x10] [] cf12 (own := "PulseRemoteModel") rfl cmX12_matches imX12_matches (Or.inl k_1464) (by decide) rfl rfl rfl (Nat.le_of_ble_eq_true rfl) (by decide +kernel : decode cX12_goesOn 89 = .ok (.invokevirtual 232, 3)) (fun z hz => m_X12_matches _ _ _ _ hz) rfl hf (fun z89 hf => ?_)
        refine r_if_eq hB (tgt := 99) (by decide +kernel : decode cX12_goesOn 92 = .ok (.ifCond .eq 7, 3)) (by decide) hf (fun _ hf => ?_) (fun _ hf => ?_)
        · refine r_iconst hB (v := (-1)) (by decide +kernel : decode cX12_goesOn 99 = .ok (.iconst (-1), 1)) (by decide +kernel) ?_
          obtain rfl := Option.some.inj hf
          obtain ⟨rfl, rfl⟩ := hk
          exact r_iret hB (by decide +kernel : decode cX12_goesOn 100 = .ok (.ireturn, 1))
        · refine r_iconst hB (v := 3) (by decide +kernel : decode cX12_goesOn 95 = .ok (.iconst 3, 1)) (by decide +kernel) ?_
          refine r_goto hB (tgt := 100) (by decide +kernel : decode cX12_goesOn 96 = .ok (.goto 4, 3)) (by decide) ?_
          obtain rfl := Option.some.inj hf
          obtain ⟨rfl, rfl⟩ := hk
          exact r_iret hB (by decide +kernel : decode cX12_goesOn 100 = .ok (.ireturn, 1))
  · refine r_iload hB 7 rfl (by decide +kernel : decode cX12_goesOn 101 = .ok (.iload 5, 2)) ?_
    refine r_iload hB 8 rfl (by decide +kernel : decode cX12_goesOn 103 = .ok (.iload 6, 2)) ?_
    refine r_icmp_eq hB (tgt := 137) (by decide +kernel : decode cX12_goesOn 105 = .ok (.if_icmp .eq 32, 3)) (by decide) hf (fun _ hf => ?_) (fun _ hf => ?_)
    · refine r_aload_n hB 2 rfl (by decide +kernel : decode cX12_goesOn 137 = .ok (.aload_n 0, 1)) rfl ?_
      refine r_aload_n hB 2 rfl (by decide +kernel : decode cX12_goesOn 138 = .ok (.aload_n 0, 1)) rfl ?_
      refine r_gR hB cf12 13 (by decide) (own := "PulseRemoteModel") rfl (Or.inl k_1128) (by decide +kernel) (by decide +kernel : decode cX12_goesOn 139 = .ok (.getfield 26, 3)) hf (fun x139 hf => ?_)
      refine r_iload_n hB 4 rfl (by decide +kernel : decode cX12_goesOn 142 = .ok (.iload_n 2, 1)) rfl ?_
      refine r_iload hB 6 rfl (by decide +kernel : decode cX12_goesOn 143 = .ok (.iload 4, 2)) ?_
      refine r_iadd hB (by decide +kernel : decode cX12_goesOn 145 = .ok (.iadd, 1)) ?_
      refine r_iald hB (by decide +kernel : decode cX12_goesOn 146 = .ok (.iaload, 1)) hf (fun x146 hf => ?_)
      refine r_iload hB 1 rfl (by decide +kernel : decode cX12_goesOn 147 = .ok (.iload 7, 2)) ?_
      refine r_cVi hB [.int x146, .int x10] [] cf12 (own := "PulseRemoteModel") rfl cmX12_matches imX12_matches (Or.inl k_1464) (by decide) rfl rfl rfl (Nat.le_of_ble_eq_true rfl) (by decide +kernel : decode cX12_goesOn 149 = .ok (.invokevirtual 232, 3)) (fun z hz => m_X12_matches _ _ _ _ hz) rfl hf (fun z149 hf => ?_)
      refine r_if_eq hB (tgt := 182) (by decide +kernel : decode cX12_goesOn 152 = .ok (.ifCond .eq 30, 3)) (by decide) hf (fun _ hf => ?_) (fun _ hf => ?_)
      · refine r_iconst hB (v := (-1)) (by decide +kernel : decode cX12_goesOn 182 = .ok (.iconst (-1), 1)) (by decide +kernel) ?_
        obtain rfl := Option.some.inj hf
        obtain ⟨rfl, rfl⟩ := hk
        exact r_iret hB (by decide +kernel : decode cX12_goesOn 183 = .ok (.ireturn, 1))
      · refine r_aload_n hB 2 rfl (by decide +kernel : decode cX12_goesOn 155 = .ok (.aload_n 0, 1)) rfl ?_
        refine r_aload_n hB 2 rfl (by decide +kernel : decode cX12_goesOn 156 = .ok (.aload_n 0, 1)) rfl ?_
        refine r_gR hB cf12 13 (by decide) (own := "PulseRemoteModel") rfl (Or.inl k_1128) (by decide +kernel) (by decide +kernel : decode cX12_goesOn 157 = .ok (.getfield 26, 3)) hf (fun x157 hf => ?_)
        refine r_iload_n hB 4 rfl (by decide +kernel : decode cX12_goesOn 160 = .ok (.iload_n 2, 1)) rfl ?_
        refine r_iload hB 6 rfl (by decide +kernel : decode cX12_goesOn 161 = .ok (.iload 4, 2)) ?_
        refine r_iadd hB (by decide +kernel : decode cX12_goesOn 163 = .ok (.iadd, 1)) ?_
        refine r_iconst hB (v := 1) (by decide +kernel : decode cX12_goesOn 164 = .ok (.iconst 1, 1)) (by decide +kernel) ?_
        refine r_iadd hB (by decide +kernel : decode cX12_goesOn 165 = .ok (.iadd, 1)) ?_
        refine r_iald hB (by decide +kernel : decode cX12_goesOn 166 = .ok (.iaload, 1)) hf (fun x166 hf => ?_)
        refine r_iload hB 1 rfl (by decide +kernel : decode cX12_goesOn 167 = .ok (.iload 7, 2)) ?_
        refine r_cVi hB [.int x166, .int x10] [] cf12 (own := "PulseRemoteModel") rfl cmX12_matches imX12_matches (Or.inl k_1464) (by decide) rfl rfl rfl (Nat.le_of_ble_eq_true rfl) (by decide +kernel : decode cX12_goesOn 169 = .ok (.invokevirtual 232, 3)) (fun z hz => m_X12_matches _ _ _ _ hz) rfl hf (fun z169 hf => ?_)
        refine r_if_eq hB (tgt := 182) (by decide +kernel : decode cX12_goesOn 172 = .ok (.ifCond .eq 10, 3)) (by decide) hf (fun _ hf => ?_) (fun _ hf => ?_)
        · refine r_iconst hB (v := (-1)) (by decide +kernel : decode cX12_goesOn 182 = .ok (.iconst (-1), 1)) (by decide +kernel) ?_
          obtain rfl := Option.some.inj hf
          obtain ⟨rfl, rfl⟩ := hk
          exact r_iret hB (by decide +kernel : decode cX12_goesOn 183 = .ok (.ireturn, 1))
        · refine r_iload hB 6 rfl (by decide +kernel : decode cX12_goesOn 175 = .ok (.iload 4, 2)) ?_
          refine r_iconst hB (v := 2) (by decide +kernel : decode cX12_goesOn 177 = .ok (.iconst 2, 1)) (by decide +kernel) ?_
          refine r_iadd hB (by decide +kernel : decode cX12_goesOn 178 = .ok (.iadd, 1)) ?_
          refine r_goto hB (tgt := 183) (by decide +kernel : decode cX12_goesOn 179 = .ok (.goto 4, 3)) (by decide) ?_
          obtain rfl := Option.some.inj hf
          obtain ⟨rfl, rfl⟩ := hk
          exact r_iret hB (by decide +kernel : decode cX12_goesOn 183 = .ok (.ireturn, 1))
    · refine r_aload_n hB 2 rfl (by decide +kernel : decode cX12_goesOn 108 = .ok (.aload_n 0, 1)) rfl ?_
      refine r_aload_n hB 2 rfl (by decide +kernel : decode cX12_goesOn 109 = .ok (.aload_n 0, 1)) rfl ?_
      refine r_gR hB cf12 13 (by decide) (own := "PulseRemoteModel") rfl (Or.inl k_1128) (by decide +kernel) (by decide +kernel : decode cX12_goesOn 110 = .ok (.getfield 26, 3)) hf (fun x110 hf => ?_)
      refine r_iload_n hB 4 rfl (by decide +kernel : decode cX12_goesOn 113 = .ok (.iload_n 2, 1)) rfl ?_
      refine r_iload hB 6 rfl (by decide +kernel : decode cX12_goesOn 114 = .ok (.iload 4, 2)) ?_
      refine r_iadd hB (by decide +kernel : decode cX12_goesOn 116 = .ok (.iadd, 1)) ?_
      refine r_iald hB (by decide +kernel : decode cX12_goesOn 117 = .ok (.iaload, 1)) hf (fun x117 hf => ?_)
      refine r_iconst hB (v := 2) (by decide +kernel : decode cX12_goesOn 118 = .ok (.iconst 2, 1)) (by decide +kernel) ?_
      refine r_iload hB 1 rfl (by decide +kernel : decode cX12_goesOn 119 = .ok (.iload 7, 2)) ?_
      refine r_imul hB (by decide +kernel : decode cX12_goesOn 121 = .ok (.imul, 1)) ?_
      refine r_cVi hB [.int x117, .int (2 * x10)] [] cf12 (own := "PulseRemoteModel") rfl cmX12_matches imX12_matches (Or.inl k_1464) (by decide) rfl rfl rfl (Nat.le_of_ble_eq_true rfl) (by decide +kernel : decode cX12_goesOn 122 = .ok (.invokevirtual 232, 3)) (fun z hz => m_X12_matches _ _ _ _ hz) rfl hf (fun z122 hf => ?_)
      refine r_if_eq hB (tgt := 135) (by decide +kernel : decode cX12_goesOn 125 = .ok (.ifCond .eq 10, 3)) (by decide) hf (fun _ hf => ?_) (fun _ hf => ?_)
      · refine r_iconst hB (v := (-1)) (by decide +kernel : decode cX12_goesOn 135 = .ok (.iconst (-1), 1)) (by decide +kernel) ?_
        obtain rfl := Option.some.inj hf
        obtain ⟨rfl, rfl⟩ := hk
        exact r_iret hB (by decide +kernel : decode cX12_goesOn 136 = .ok (.ireturn, 1))
      · refine r_iload hB 6 rfl (by decide +kernel : decode cX12_goesOn 128 = .ok (.iload 4, 2)) ?_
        refine r_iconst hB (v := 1) (by decide +kernel : decode cX12_goesOn 130 = .ok (.iconst 1, 1)) (by decide +kernel) ?_
        refine r_iadd hB (by decide +kernel : decode cX12_goesOn 131 = .ok (.iadd, 1)) ?_
        refine r_goto hB (tgt := 136) (by decide +kernel : decode cX12_goesOn 132 = .ok (.goto 4, 3)) (by decide) ?_
        obtain rfl := Option.some.inj hf
        obtain ⟨rfl, rfl⟩ := hk
        exact r_iret hB (by decide +kernel : decode cX12_goesOn 136 = .ok (.ireturn, 1))
theorem m_X12_goesOn (l : Launch) (D : va_G) (cy : Nat → ClassId) (b : Nat) {l0 : Nat} {l1 : Int32} {l2 : Int32} {l3 : Int32} {l4 : Int32} {l5 : Int32} {l6 : Int32} {μ : MS} {z : Int32 × MS} (hf : f_X12_goesOn l0 l1 l2 l3 l4 l5 l6 μ = some z) : Met l yX12_goesOn (.code yX12_goesOn cX12_goesOn 9 (some .int) :: GW) rmX12_goesOn (Pw D cy b [.ref (b + l0), .int l1, .int l2, .int l3, .int l4, .int l5, .int l6] μ) (Qw D cy b (some (.int z.1)) (z.2)) rmX12_goesOn.cells rmX12_goesOn.slots (fun q => b ≤ q) :=
  met_of (by decide) (Nat.le_of_ble_eq_true rfl) (fun X hB _ => (t_X12_goesOn_0 hB hf ⟨rfl, rfl⟩))
-- PulseRemoteModel.isWhole(IIIII)Z
set_option maxHeartbeats 4000000 in
set_option maxRecDepth 100000 in
theorem t_X12_isWhole_0 {X : BX} {D : va_G} {cy : Nat → ClassId} {b : Nat} {r : Option Value} {μ' : MS} (hB : BB X D cy b yX12_isWhole cX12_isWhole 6 (some .boolean) rmX12_isWhole) {l0 : Nat} {l1 : Int32} {l2 : Int32} {l3 : Int32} {l4 : Int32} {l5 : Int32} {μ : MS} {z : (Int32 × MS)} (hf : f_X12_isWhole l0 l1 l2 l3 l4 l5 μ = some z) (hk : (fun z : Int32 × MS => r = some (.int z.1) ∧ μ' = z.2) z) : WW X D cy b r μ' 6 0 0 0 [(0, .ref (b + l0)), (1, .int l1), (2, .int l2), (3, .int l3), (4, .int l4), (5, .int l5)] [] μ := by
  unfold f_X12_isWhole at hf
  refine r_iload hB 5 rfl (by decide +kernel : decode cX12_isWhole 0 = .ok (.iload 5, 2)) ?_
  refine r_iconst hB (v := 1) (by decide +kernel : decode cX12_isWhole 2 = .ok (.iconst 1, 1)) (by decide +kernel) ?_
  refine r_icmp_ne hB (tgt := 20) (by decide +kernel : decode cX12_isWhole 3 = .ok (.if_icmp .ne 17, 3)) (by decide) hf (fun _ hf => ?_) (fun _ hf => ?_)
  · refine r_iload hB 4 rfl (by decide +kernel : decode cX12_isWhole 6 = .ok (.iload 4, 2)) ?_
    refine r_iload_n hB 3 rfl (by decide +kernel : decode cX12_isWhole 8 = .ok (.iload_n 3, 1)) rfl ?_
    refine r_icmp_ne hB (tgt := 16) (by decide +kernel : decode cX12_isWhole 9 = .ok (.if_icmp .ne 7, 3)) (by decide) hf (fun _ hf => ?_) (fun _ hf => ?_)
    · refine r_iconst hB (v := 1) (by decide +kernel : decode cX12_isWhole 12 = .ok (.iconst 1, 1)) (by decide +kernel) ?_
      refine r_goto hB (tgt := 60) (by decide +kernel : decode cX12_isWhole 13 = .ok (.goto 47, 3)) (by decide) ?_
      obtain rfl := Option.some.inj hf
      obtain ⟨rfl, rfl⟩ := hk
      exact r_zret hB (Or.inr rfl) (by decide +kernel : decode cX12_isWhole 60 = .ok (.ireturn, 1))
    · refine r_iconst hB (v := 0) (by decide +kernel : decode cX12_isWhole 16 = .ok (.iconst 0, 1)) (by decide +kernel) ?_
      refine r_goto hB (tgt := 60) (by decide +kernel : decode cX12_isWhole 17 = .ok (.goto 43, 3)) (by decide) ?_
      obtain rfl := Option.some.inj hf
      obtain ⟨rfl, rfl⟩ := hk
      exact r_zret hB (Or.inl rfl) (by decide +kernel : decode cX12_isWhole 60 = .ok (.ireturn, 1))
  · refine r_iload hB 4 rfl (by decide +kernel : decode cX12_isWhole 20 = .ok (.iload 4, 2)) ?_
    refine r_iload_n hB 3 rfl (by decide +kernel : decode cX12_isWhole 22 = .ok (.iload_n 3, 1)) rfl ?_
    refine r_iconst hB (v := 1) (by decide +kernel : decode cX12_isWhole 23 = .ok (.iconst 1, 1)) (by decide +kernel) ?_
    refine r_isub hB (by decide +kernel : decode cX12_isWhole 24 = .ok (.isub, 1)) ?_
    refine r_icmp_ne hB (tgt := 59) (by decide +kernel : decode cX12_isWhole 25 = .ok (.if_icmp .ne 34, 3)) (by decide) hf (fun _ hf => ?_) (fun _ hf => ?_)
    · refine r_aload_n hB 0 rfl (by decide +kernel : decode cX12_isWhole 28 = .ok (.aload_n 0, 1)) rfl ?_
      refine r_aload_n hB 0 rfl (by decide +kernel : decode cX12_isWhole 29 = .ok (.aload_n 0, 1)) rfl ?_
      refine r_gR hB cf12 13 (by decide) (own := "PulseRemoteModel") rfl (Or.inl k_1128) (by decide +kernel) (by decide +kernel : decode cX12_isWhole 30 = .ok (.getfield 26, 3)) hf (fun x30 hf => ?_)
      refine r_iload_n hB 2 rfl (by decide +kernel : decode cX12_isWhole 33 = .ok (.iload_n 2, 1)) rfl ?_
      refine r_iload hB 4 rfl (by decide +kernel : decode cX12_isWhole 34 = .ok (.iload 4, 2)) ?_
      refine r_iadd hB (by decide +kernel : decode cX12_isWhole 36 = .ok (.iadd, 1)) ?_
      refine r_iald hB (by decide +kernel : decode cX12_isWhole 37 = .ok (.iaload, 1)) hf (fun x37 hf => ?_)
      refine r_aload_n hB 0 rfl (by decide +kernel : decode cX12_isWhole 38 = .ok (.aload_n 0, 1)) rfl ?_
      refine r_gR hB cf12 0 (by decide) (own := "PulseRemoteModel") rfl (Or.inl k_1115) (by decide +kernel) (by decide +kernel : decode cX12_isWhole 39 = .ok (.getfield 7, 3)) hf (fun x39 hf => ?_)
      refine r_iload_n hB 1 rfl (by decide +kernel : decode cX12_isWhole 42 = .ok (.iload_n 1, 1)) rfl ?_
      refine r_cSi hB [.int l1] [.ref (b + x39), .int x37, .ref (b + l0)] (own := "PulseRemoteModel") rfl cmX12_at smX12_at (Or.inl ⟨rfl, k_1244⟩) (by decide) rfl rfl rfl (Nat.le_of_ble_eq_true rfl) (by decide +kernel : decode cX12_isWhole 43 = .ok (.invokestatic 72, 3)) (fun z hz => m_X12_at _ _ _ _ hz) rfl hf (fun z43 hf => ?_)
      refine r_iconst hB (v := 3) (by decide +kernel : decode cX12_isWhole 46 = .ok (.iconst 3, 1)) (by decide +kernel) ?_
      refine r_iadd hB (by decide +kernel : decode cX12_isWhole 47 = .ok (.iadd, 1)) ?_
      refine r_iald hB (by decide +kernel : decode cX12_isWhole 48 = .ok (.iaload, 1)) hf (fun x48 hf => ?_)
      refine r_cVi hB [.int x37, .int x48] [] cf12 (own := "PulseRemoteModel") rfl cmX12_matches imX12_matches (Or.inl k_1464) (by decide) rfl rfl rfl (Nat.le_of_ble_eq_true rfl) (by decide +kernel : decode cX12_isWhole 49 = .ok (.invokevirtual 232, 3)) (fun z hz => m_X12_matches _ _ _ _ hz) rfl hf (fun z49 hf => ?_)
      refine r_if_eq hB (tgt := 59) (by decide +kernel : decode cX12_isWhole 52 = .ok (.ifCond .eq 7, 3)) (by decide) hf (fun _ hf => ?_) (fun _ hf => ?_)
      · refine r_iconst hB (v := 0) (by decide +kernel : decode cX12_isWhole 59 = .ok (.iconst 0, 1)) (by decide +kernel) ?_
        obtain rfl := Option.some.inj hf
        obtain ⟨rfl, rfl⟩ := hk
        exact r_zret hB (Or.inl rfl) (by decide +kernel : decode cX12_isWhole 60 = .ok (.ireturn, 1))
      · refine r_iconst hB (v := 1) (by decide +kernel : decode cX12_isWhole 55 = .ok (.iconst 1, 1)) (by decide +kernel) ?_
        refine r_goto hB (tgt := 60) (by decide +kernel : decode cX12_isWhole 56 = .ok (.goto 4, 3)) (by decide) ?_
        obtain rfl := Option.some.inj hf
        obtain ⟨rfl, rfl⟩ := hk
        exact r_zret hB (Or.inr rfl) (by decide +kernel : decode cX12_isWhole 60 = .ok (.ireturn, 1))
    · refine r_iconst hB (v := 0) (by decide +kernel : decode cX12_isWhole 59 = .ok (.iconst 0, 1)) (by decide +kernel) ?_
      obtain rfl := Option.some.inj hf
      obtain ⟨rfl, rfl⟩ := hk
      exact r_zret hB (Or.inl rfl) (by decide +kernel : decode cX12_isWhole 60 = .ok (.ireturn, 1))
theorem m_X12_isWhole (l : Launch) (D : va_G) (cy : Nat → ClassId) (b : Nat) {l0 : Nat} {l1 : Int32} {l2 : Int32} {l3 : Int32} {l4 : Int32} {l5 : Int32} {μ : MS} {z : Int32 × MS} (hf : f_X12_isWhole l0 l1 l2 l3 l4 l5 μ = some z) : Met l yX12_isWhole (.code yX12_isWhole cX12_isWhole 6 (some .boolean) :: GW) rmX12_isWhole (Pw D cy b [.ref (b + l0), .int l1, .int l2, .int l3, .int l4, .int l5] μ) (Qw D cy b (some (.int z.1)) (z.2)) rmX12_isWhole.cells rmX12_isWhole.slots (fun q => b ≤ q) :=
  met_of (by decide) (Nat.le_of_ble_eq_true rfl) (fun X hB _ => (t_X12_isWhole_0 hB hf ⟨rfl, rfl⟩))
