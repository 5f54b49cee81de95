/-! printed by wip/whole/gen.py -/
-- PulseRemote.worstDeviation(ILPulseRemote$Train;)I
set_option maxHeartbeats 4000000 in
set_option maxRecDepth 100000 in
theorem t_X11_worstDeviation_61 {X : BX} {D : va_G} {cy : Nat → ClassId} {b : Nat} {r : Option Value} {μ' : MS} (hB : BB X D cy b yX11_worstDeviation cX11_worstDeviation 6 (some .int) rmX11_worstDeviation) {l3 : Int32} {μ : MS} {z : (Int32 × MS)} (hf : f_X11_worstDeviation_61 l3 μ = some z) (hk : (fun z : Int32 × MS => r = some (.int z.1) ∧ μ' = z.2) z) : WW X D cy b r μ' 6 0 0 61 [(3, .int l3)] [] μ := by
  unfold f_X11_worstDeviation_61 at hf
  refine r_iload_n hB 0 rfl (by decide +kernel : decode cX11_worstDeviation 61 = .ok (.iload_n 3, 1)) rfl ?_
  obtain rfl := Option.some.inj hf
  obtain ⟨rfl, rfl⟩ := hk
  exact r_iret hB (by decide +kernel : decode cX11_worstDeviation 62 = .ok (.ireturn, 1))
set_option maxHeartbeats 4000000 in
set_option maxRecDepth 100000 in
theorem t_X11_worstDeviation_55 {X : BX} {D : va_G} {cy : Nat → ClassId} {b : Nat} {r : Option Value} {μ' : MS} (hB : BB X D cy b yX11_worstDeviation cX11_worstDeviation 6 (some .int) rmX11_worstDeviation) {l0 : Nat} {l1 : Int32} {l2 : Nat} {l3 : Int32} {l4 : Int32} {μ : MS} {z : ((Nat × Int32 × Nat × Int32 × Int32 × MS) ⊕ (Int32 × MS))} (hf : f_X11_worstDeviation_55 l0 l1 l2 l3 l4 μ = some z) (hk : (Sum.elim (fun s : Nat × Int32 × Nat × Int32 × Int32 × MS => WW X D cy b r μ' 6 0 0 5 [(0, .ref (b + s.1)), (1, .int s.2.1), (2, .ref (b + s.2.2.1)), (3, .int s.2.2.2.1), (4, .int s.2.2.2.2.1)] [] s.2.2.2.2.2) (fun z : Int32 × MS => r = some (.int z.1) ∧ μ' = z.2)) z) : WW X D cy b r μ' 6 0 0 55 [(0, .ref (b + l0)), (1, .int l1), (2, .ref (b + l2)), (3, .int l3), (4, .int l4)] [] μ := by
  unfold f_X11_worstDeviation_55 at hf
  refine r_iincB hB 4 rfl (by decide +kernel : decode cX11_worstDeviation 55 = .ok (.iinc 4 1, 3)) (w := 1) (by decide +kernel) (by decide) hf (fun v55 hf => ?_)
  refine ww_lv (lv' := [(4, .int v55), (0, .ref (b + l0)), (1, .int l1), (2, .ref (b + l2)), (3, .int l3)]) rfl ?_
  refine r_goto hB (tgt := 5) (by decide +kernel : decode cX11_worstDeviation 58 = .ok (.goto (-53), 3)) (by decide) ?_
  obtain rfl := Option.some.inj hf
  exact WW.sub [1, 2, 3, 4, 0] rfl hk
set_option maxHeartbeats 4000000 in
set_option maxRecDepth 100000 in
theorem t_X11_worstDeviation_5_b {X : BX} {D : va_G} {cy : Nat → ClassId} {b : Nat} {r : Option Value} {μ' : MS} (hB : BB X D cy b yX11_worstDeviation cX11_worstDeviation 6 (some .int) rmX11_worstDeviation) {l0 : Nat} {l1 : Int32} {l2 : Nat} {l3 : Int32} {l4 : Int32} {μ : MS} {z : ((Nat × Int32 × Nat × Int32 × Int32 × MS) ⊕ (Int32 × MS))} (hf : f_X11_worstDeviation_5_b l0 l1 l2 l3 l4 μ = some z) (hk : (Sum.elim (fun s : Nat × Int32 × Nat × Int32 × Int32 × MS => WW X D cy b r μ' 6 0 0 5 [(0, .ref (b + s.1)), (1, .int s.2.1), (2, .ref (b + s.2.2.1)), (3, .int s.2.2.2.1), (4, .int s.2.2.2.2.1)] [] s.2.2.2.2.2) (fun z : Int32 × MS => r = some (.int z.1) ∧ μ' = z.2)) z) : WW X D cy b r μ' 6 0 0 5 [(0, .ref (b + l0)), (1, .int l1), (2, .ref (b + l2)), (3, .int l3), (4, .int l4)] [] μ := by
  unfold f_X11_worstDeviation_5_b at hf
  refine r_iload hB 4 rfl (by decide +kernel : decode cX11_worstDeviation 5 = .ok (.iload 4, 2)) ?_
  refine r_aload_n hB 2 rfl (by decide +kernel : decode cX11_worstDeviation 7 = .ok (.aload_n 2, 1)) rfl ?_
  refine r_gI hB cf10 1 (by decide) (own := "PulseRemote") rfl (Or.inr ⟨_, k_204⟩) (by decide +kernel) (by decide +kernel : decode cX11_worstDeviation 8 = .ok (.getfield 244, 3)) hf (fun x8 hf => ?_)
  refine r_icmp_ge hB (tgt := 61) (by decide +kernel : decode cX11_worstDeviation 11 = .ok (.if_icmp .ge 50, 3)) (by decide) hf (fun _ hf => ?_) (fun _ hf => ?_)
  · obtain ⟨_, hx0, rfl⟩ := xr_inv hf
    exact WW.sub [3] rfl (t_X11_worstDeviation_61 hB hx0 hk)
  · refine r_aload_n hB 2 rfl (by decide +kernel : decode cX11_worstDeviation 14 = .ok (.aload_n 2, 1)) rfl ?_
    refine r_iload hB 4 rfl (by decide +kernel : decode cX11_worstDeviation 15 = .ok (.iload 4, 2)) ?_
    refine r_cVi hB [.int l4] [] cf10 (own := "PulseRemote") rfl cmX10_at imX10_at (Or.inl k_884) (by decide) rfl rfl rfl (Nat.le_of_ble_eq_true rfl) (by decide +kernel : decode cX11_worstDeviation 17 = .ok (.invokevirtual 283, 3)) (fun z hz => m_X10_at _ _ _ _ hz) rfl hf (fun z17 hf => ?_)
    refine r_istore hB (by decide +kernel : decode cX11_worstDeviation 20 = .ok (.istore 5, 2)) (by decide) rfl ?_
    refine ww_lv (lv' := [(5, .int z17.1), (0, .ref (b + l0)), (1, .int l1), (2, .ref (b + l2)), (3, .int l3), (4, .int l4)]) rfl ?_
    refine r_iload hB 0 rfl (by decide +kernel : decode cX11_worstDeviation 22 = .ok (.iload 5, 2)) ?_
    refine r_if_le hB (tgt := 55) (by decide +kernel : decode cX11_worstDeviation 24 = .ok (.ifCond .le 31, 3)) (by decide) hf (fun _ hf => ?_) (fun _ hf => ?_)
    · exact WW.sub [1, 2, 3, 4, 5] rfl (t_X11_worstDeviation_55 hB hf hk)
    · refine r_iload_n hB 4 rfl (by decide +kernel : decode cX11_worstDeviation 27 = .ok (.iload_n 3, 1)) rfl ?_
      refine r_sipush hB (v := 1000) (by decide +kernel : decode cX11_worstDeviation 28 = .ok (.sipush 1000, 3)) (by decide +kernel) ?_
      refine r_aload_n hB 1 rfl (by decide +kernel : decode cX11_worstDeviation 31 = .ok (.aload_n 0, 1)) rfl ?_
      refine r_gR hB cf11 7 (by decide) (own := "PulseRemote") rfl (Or.inl k_472) (by decide +kernel) (by decide +kernel : decode cX11_worstDeviation 32 = .ok (.getfield 48, 3)) hf (fun x32 hf => ?_)
      refine r_iload_n hB 2 rfl (by decide +kernel : decode cX11_worstDeviation 35 = .ok (.iload_n 1, 1)) rfl ?_
      refine r_iload hB 5 rfl (by decide +kernel : decode cX11_worstDeviation 36 = .ok (.iload 4, 2)) ?_
      refine r_cVi hB [.int l1, .int l4] [.int 1000, .int l3] cf3 (own := "PulseRemote") rfl cmX3_durationAt imX3_durationAt (Or.inl k_1017) (by decide) rfl rfl rfl (Nat.le_of_ble_eq_true rfl) (by decide +kernel : decode cX11_worstDeviation 38 = .ok (.invokevirtual 360, 3)) (fun z hz => m_X3_durationAt _ _ _ _ hz) rfl hf (fun z38 hf => ?_)
      refine r_iload hB 0 rfl (by decide +kernel : decode cX11_worstDeviation 41 = .ok (.iload 5, 2)) ?_
      refine r_isub hB (by decide +kernel : decode cX11_worstDeviation 43 = .ok (.isub, 1)) ?_
      refine r_abs hB (own := "PulseRemote") rfl k_1018 k_1019 k_91 k_1020 (by decide +kernel : decode cX11_worstDeviation 44 = .ok (.invokestatic 363, 3)) (by decide) (Nat.le_of_ble_eq_true rfl) ?_
      refine r_imul hB (by decide +kernel : decode cX11_worstDeviation 47 = .ok (.imul, 1)) ?_
      refine r_iload hB 0 rfl (by decide +kernel : decode cX11_worstDeviation 48 = .ok (.iload 5, 2)) ?_
      refine r_idiv hB (by decide +kernel : decode cX11_worstDeviation 50 = .ok (.idiv, 1)) hf (fun v50 hf => ?_)
      refine r_max hB (own := "PulseRemote") rfl k_1021 k_545 k_91 k_546 (by decide +kernel : decode cX11_worstDeviation 51 = .ok (.invokestatic 368, 3)) (by decide) (Nat.le_of_ble_eq_true rfl) ?_
      refine r_name hf (fun v54 hf => ?_)
      refine r_istore_n hB (by decide +kernel : decode cX11_worstDeviation 54 = .ok (.istore_n 3, 1)) rfl (by decide) rfl ?_
      refine ww_lv (lv' := [(3, .int v54), (5, .int z17.1), (0, .ref (b + l0)), (1, .int l1), (2, .ref (b + l2)), (4, .int l4)]) rfl ?_
      exact WW.sub [2, 3, 4, 0, 5] rfl (t_X11_worstDeviation_55 hB hf hk)
set_option maxHeartbeats 4000000 in
set_option maxRecDepth 100000 in
theorem t_X11_worstDeviation_5 {X : BX} {D : va_G} {cy : Nat → ClassId} {b : Nat} {r : Option Value} {μ' : MS} (hB : BB X D cy b yX11_worstDeviation cX11_worstDeviation 6 (some .int) rmX11_worstDeviation) {l0 : Nat} {l1 : Int32} {l2 : Nat} {l3 : Int32} {l4 : Int32} {μ : MS} {z : (Int32 × MS)} (hf : f_X11_worstDeviation_5 l0 l1 l2 l3 l4 μ = some z) (hk : (fun z : Int32 × MS => r = some (.int z.1) ∧ μ' = z.2) z) : WW X D cy b r μ' 6 0 0 5 [(0, .ref (b + l0)), (1, .int l1), (2, .ref (b + l2)), (3, .int l3), (4, .int l4)] [] μ :=
  lp_ind (P := fun s : Nat × Int32 × Nat × Int32 × Int32 × MS => WW X D cy b r μ' 6 0 0 5 [(0, .ref (b + s.1)), (1, .int s.2.1), (2, .ref (b + s.2.2.1)), (3, .int s.2.2.2.1), (4, .int s.2.2.2.2.1)] [] s.2.2.2.2.2) (Q := (fun z : Int32 × MS => r = some (.int z.1) ∧ μ' = z.2)) (fun s z hz hk => t_X11_worstDeviation_5_b hB hz hk) (l0, l1, l2, l3, l4, μ) z hf hk
set_option maxHeartbeats 4000000 in
set_option maxRecDepth 100000 in
theorem t_X11_worstDeviation_0 {X : BX} {D : va_G} {cy : Nat → ClassId} {b : Nat} {r : Option Value} {μ' : MS} (hB : BB X D cy b yX11_worstDeviation cX11_worstDeviation 6 (some .int) rmX11_worstDeviation) {l0 : Nat} {l1 : Int32} {l2 : Nat} {μ : MS} {z : (Int32 × MS)} (hf : f_X11_worstDeviation l0 l1 l2 μ = some z) (hk : (fun z : Int32 × MS => r = some (.int z.1) ∧ μ' = z.2) z) : WW X D cy b r μ' 6 0 0 0 [(0, .ref (b + l0)), (1, .int l1), (2, .ref (b + l2))] [] μ := by
  unfold f_X11_worstDeviation at hf
  refine r_iconst hB (v := 0) (by decide +kernel : decode cX11_worstDeviation 0 = .ok (.iconst 0, 1)) (by decide +kernel) ?_
  refine r_istore_n hB (by decide +kernel : decode cX11_worstDeviation 1 = .ok (.istore_n 3, 1)) rfl (by decide) rfl ?_
  refine ww_lv (lv' := [(3, .int 0), (0, .ref (b + l0)), (1, .int l1), (2, .ref (b + l2))]) rfl ?_
  refine r_iconst hB (v := 0) (by decide +kernel : decode cX11_worstDeviation 2 = .ok (.iconst 0, 1)) (by decide +kernel) ?_
  refine r_istore hB (by decide +kernel : decode cX11_worstDeviation 3 = .ok (.istore 4, 2)) (by decide) rfl ?_
  refine ww_lv (lv' := [(4, .int 0), (3, .int 0), (0, .ref (b + l0)), (1, .int l1), (2, .ref (b + l2))]) rfl ?_
  exact WW.sub [2, 3, 4, 1, 0] rfl (t_X11_worstDeviation_5 hB hf hk)
theorem m_X11_worstDeviation (l : Launch) (D : va_G) (cy : Nat → ClassId) (b : Nat) {l0 : Nat} {l1 : Int32} {l2 : Nat} {μ : MS} {z : Int32 × MS} (hf : f_X11_worstDeviation l0 l1 l2 μ = some z) : Met l yX11_worstDeviation (.code yX11_worstDeviation cX11_worstDeviation 6 (some .int) :: GW) rmX11_worstDeviation (Pw D cy b [.ref (b + l0), .int l1, .ref (b + l2)] μ) (Qw D cy b (some (.int z.1)) (z.2)) rmX11_worstDeviation.cells rmX11_worstDeviation.slots (fun q => b ≤ q) :=
  met_of (by decide) (Nat.le_of_ble_eq_true rfl) (fun X hB _ => (t_X11_worstDeviation_0 hB hf ⟨rfl, rfl⟩))
-- PulseRemote.deviation(II)I
set_option maxHeartbeats 4000000 in
set_option maxRecDepth 100000 in
theorem t_X11_deviation_142 {X : BX} {D : va_G} {cy : Nat → ClassId} {b : Nat} {r : Option Value} {μ' : MS} (hB : BB X D cy b yX11_deviation cX11_deviation 4 (some .int) rmX11_deviation) {l0 : Nat} {l2 : Int32} {μ : MS} {z : (Int32 × MS)} (hf : f_X11_deviation_142 l0 l2 μ = some z) (hk : (fun z : Int32 × MS => r = some (.int z.1) ∧ μ' = z.2) z) : WW X D cy b r μ' 4 0 0 142 [(0, .ref (b + l0)), (2, .int l2)] [] μ := by
  unfold f_X11_deviation_142 at hf
  refine r_aload_n hB 0 rfl (by decide +kernel : decode cX11_deviation 142 = .ok (.aload_n 0, 1)) rfl ?_
  refine r_iload_n hB 1 rfl (by decide +kernel : decode cX11_deviation 143 = .ok (.iload_n 2, 1)) rfl ?_
  refine r_aload_n hB 0 rfl (by decide +kernel : decode cX11_deviation 144 = .ok (.aload_n 0, 1)) rfl ?_
  refine r_gR hB cf11 5 (by decide) (own := "PulseRemote") rfl (Or.inl k_470) (by decide +kernel) (by decide +kernel : decode cX11_deviation 145 = .ok (.getfield 37, 3)) hf (fun x145 hf => ?_)
  refine r_cVi hB [.int l2, .ref (b + x145)] [] cf11 (own := "PulseRemote") rfl cmX11_worstDeviation imX11_worstDeviation (Or.inl k_1013) (by decide) rfl rfl rfl (Nat.le_of_ble_eq_true rfl) (by decide +kernel : decode cX11_deviation 148 = .ok (.invokevirtual 311, 3)) (fun z hz => m_X11_worstDeviation _ _ _ _ hz) rfl hf (fun z148 hf => ?_)
  obtain rfl := Option.some.inj hf
  obtain ⟨rfl, rfl⟩ := hk
  exact r_iret hB (by decide +kernel : decode cX11_deviation 151 = .ok (.ireturn, 1))
set_option maxHeartbeats 4000000 in
set_option maxRecDepth 100000 in
theorem t_X11_deviation_0 {X : BX} {D : va_G} {cy : Nat → ClassId} {b : Nat} {r : Option Value} {μ' : MS} (hB : BB X D cy b yX11_deviation cX11_deviation 4 (some .int) rmX11_deviation) {l0 : Nat} {l1 : Int32} {l2 : Int32} {μ : MS} {z : (Int32 × MS)} (hf : f_X11_deviation l0 l1 l2 μ = some z) (hk : (fun z : Int32 × MS => r = some (.int z.1) ∧ μ' = z.2) z) : WW X D cy b r μ' 4 0 0 0 [(0, .ref (b + l0)), (1, .int l1), (2, .int l2)] [] μ := by
  unfold f_X11_deviation at hf
  refine r_iload_n hB 1 rfl (by decide +kernel : decode cX11_deviation 0 = .ok (.iload_n 1, 1)) rfl ?_
  refine r_cSi hB [.int l1] [] (own := "PulseRemote") rfl cmX11_isSlot smX11_isSlot (Or.inl ⟨rfl, k_589⟩) (by decide) rfl rfl rfl (Nat.le_of_ble_eq_true rfl) (by decide +kernel : decode cX11_deviation 1 = .ok (.invokestatic 156, 3)) (fun z hz => m_X11_isSlot _ _ _ _ hz) rfl hf (fun z1 hf => ?_)
  refine r_if_eq hB (tgt := 11) (by decide +kernel : decode cX11_deviation 4 = .ok (.ifCond .eq 7, 3)) (by decide) hf (fun _ hf => ?_) (fun _ hf => ?_)
  · refine r_iconst hB (v := (-1)) (by decide +kernel : decode cX11_deviation 11 = .ok (.iconst (-1), 1)) (by decide +kernel) ?_
    obtain rfl := Option.some.inj hf
    obtain ⟨rfl, rfl⟩ := hk
    exact r_iret hB (by decide +kernel : decode cX11_deviation 12 = .ok (.ireturn, 1))
  · refine r_iload_n hB 2 rfl (by decide +kernel : decode cX11_deviation 7 = .ok (.iload_n 2, 1)) rfl ?_
    refine r_if_ge hB (tgt := 13) (by decide +kernel : decode cX11_deviation 8 = .ok (.ifCond .ge 5, 3)) (by decide) hf (fun _ hf => ?_) (fun _ hf => ?_)
    · refine r_aload_n hB 0 rfl (by decide +kernel : decode cX11_deviation 13 = .ok (.aload_n 0, 1)) rfl ?_
      refine r_gR hB cf11 7 (by decide) (own := "PulseRemote") rfl (Or.inl k_472) (by decide +kernel) (by decide +kernel : decode cX11_deviation 14 = .ok (.getfield 48, 3)) hf (fun x14 hf => ?_)
      refine r_aload_n hB 0 rfl (by decide +kernel : decode cX11_deviation 17 = .ok (.aload_n 0, 1)) rfl ?_
      refine r_gR hB cf11 0 (by decide) (own := "PulseRemote") rfl (Or.inl k_465) (by decide +kernel) (by decide +kernel : decode cX11_deviation 18 = .ok (.getfield 12, 3)) hf (fun x18 hf => ?_)
      refine r_iload_n hB 1 rfl (by decide +kernel : decode cX11_deviation 21 = .ok (.iload_n 1, 1)) rfl ?_
      refine r_cVr hB [.int l1] [.ref (b + x14)] cf7 (own := "PulseRemote") rfl cmX7_trainAt imX7_trainAt (Or.inl k_592) (by decide) rfl rfl rfl (Nat.le_of_ble_eq_true rfl) (by decide +kernel : decode cX11_deviation 22 = .ok (.invokevirtual 159, 3)) (fun z hz => m_X7_trainAt _ _ _ _ hz) rfl hf (fun z22 hf => ?_)
      refine r_aload_n hB 0 rfl (by decide +kernel : decode cX11_deviation 25 = .ok (.aload_n 0, 1)) rfl ?_
      refine r_gR hB cf11 0 (by decide) (own := "PulseRemote") rfl (Or.inl k_465) (by decide +kernel) (by decide +kernel : decode cX11_deviation 26 = .ok (.getfield 12, 3)) hf (fun x26 hf => ?_)
      refine r_gI hB cf7 2 (by decide) (own := "PulseRemote") rfl (Or.inr ⟨_, k_216⟩) (by decide +kernel) (by decide +kernel : decode cX11_deviation 29 = .ok (.getfield 163, 3)) hf (fun x29 hf => ?_)
      refine r_cVv hB [.ref (b + z22.1), .int x29] [] cf3 (own := "PulseRemote") rfl cmX3_split imX3_split (Or.inl k_597) (by decide) rfl rfl rfl (Nat.le_of_ble_eq_true rfl) (by decide +kernel : decode cX11_deviation 32 = .ok (.invokevirtual 166, 3)) (fun z hz => m_X3_split _ _ _ _ hz) rfl hf (fun z32 hf => ?_)
      refine r_iload_n hB 2 rfl (by decide +kernel : decode cX11_deviation 35 = .ok (.iload_n 2, 1)) rfl ?_
      refine r_aload_n hB 0 rfl (by decide +kernel : decode cX11_deviation 36 = .ok (.aload_n 0, 1)) rfl ?_
      refine r_gR hB cf11 7 (by decide) (own := "PulseRemote") rfl (Or.inl k_472) (by decide +kernel) (by decide +kernel : decode cX11_deviation 37 = .ok (.getfield 48, 3)) hf (fun x37 hf => ?_)
      refine r_gI hB cf3 2 (by decide) (own := "PulseRemote") rfl (Or.inr ⟨_, k_277⟩) (by decide +kernel) (by decide +kernel : decode cX11_deviation 40 = .ok (.getfield 286, 3)) hf (fun x40 hf => ?_)
      refine r_icmp_lt hB (tgt := 49) (by decide +kernel : decode cX11_deviation 43 = .ok (.if_icmp .lt 6, 3)) (by decide) hf (fun _ hf => ?_) (fun _ hf => ?_)
      · refine r_aload_n hB 0 rfl (by decide +kernel : decode cX11_deviation 49 = .ok (.aload_n 0, 1)) rfl ?_
        refine r_gR hB cf11 8 (by decide) (own := "PulseRemote") rfl (Or.inl k_473) (by decide +kernel) (by decide +kernel : decode cX11_deviation 50 = .ok (.getfield 55, 3)) hf (fun x50 hf => ?_)
        refine r_aload_n hB 0 rfl (by decide +kernel : decode cX11_deviation 53 = .ok (.aload_n 0, 1)) rfl ?_
        refine r_gR hB cf11 0 (by decide) (own := "PulseRemote") rfl (Or.inl k_465) (by decide +kernel) (by decide +kernel : decode cX11_deviation 54 = .ok (.getfield 12, 3)) hf (fun x54 hf => ?_)
        refine r_gR hB cf7 0 (by decide) (own := "PulseRemote") rfl (Or.inr ⟨_, k_212⟩) (by decide +kernel) (by decide +kernel : decode cX11_deviation 57 = .ok (.getfield 84, 3)) hf (fun x57 hf => ?_)
        refine r_aload_n hB 0 rfl (by decide +kernel : decode cX11_deviation 60 = .ok (.aload_n 0, 1)) rfl ?_
        refine r_gR hB cf11 7 (by decide) (own := "PulseRemote") rfl (Or.inl k_472) (by decide +kernel) (by decide +kernel : decode cX11_deviation 61 = .ok (.getfield 48, 3)) hf (fun x61 hf => ?_)
        refine r_iload_n hB 2 rfl (by decide +kernel : decode cX11_deviation 64 = .ok (.iload_n 2, 1)) rfl ?_
        refine r_aload_n hB 0 rfl (by decide +kernel : decode cX11_deviation 65 = .ok (.aload_n 0, 1)) rfl ?_
        refine r_gR hB cf11 0 (by decide) (own := "PulseRemote") rfl (Or.inl k_465) (by decide +kernel) (by decide +kernel : decode cX11_deviation 66 = .ok (.getfield 12, 3)) hf (fun x66 hf => ?_)
        refine r_gI hB cf7 4 (by decide) (own := "PulseRemote") rfl (Or.inr ⟨_, k_222⟩) (by decide +kernel) (by decide +kernel : decode cX11_deviation 69 = .ok (.getfield 226, 3)) hf (fun x69 hf => ?_)
        refine r_cVv hB [.ref (b + x57), .ref (b + x61), .int l2, .int x69] [] cf2 (own := "PulseRemote") rfl cmX2_decode imX2_decode (Or.inl k_958) (by decide) rfl rfl rfl (Nat.le_of_ble_eq_true rfl) (by decide +kernel : decode cX11_deviation 72 = .ok (.invokevirtual 295, 3)) (fun z hz => m_X2_decode _ _ _ _ hz) rfl hf (fun z72 hf => ?_)
        refine r_aload_n hB 0 rfl (by decide +kernel : decode cX11_deviation 75 = .ok (.aload_n 0, 1)) rfl ?_
        refine r_gR hB cf11 8 (by decide) (own := "PulseRemote") rfl (Or.inl k_473) (by decide +kernel) (by decide +kernel : decode cX11_deviation 76 = .ok (.getfield 55, 3)) hf (fun x76 hf => ?_)
        refine r_cVi hB [] [] cf2 (own := "PulseRemote") rfl cmX2_isDecoded imX2_isDecoded (Or.inl k_1001) (by decide) rfl rfl rfl (Nat.le_of_ble_eq_true rfl) (by decide +kernel : decode cX11_deviation 79 = .ok (.invokevirtual 299, 3)) (fun z hz => m_X2_isDecoded _ _ _ _ hz) rfl hf (fun z79 hf => ?_)
        refine r_if_ne hB (tgt := 88) (by decide +kernel : decode cX11_deviation 82 = .ok (.ifCond .ne 6, 3)) (by decide) hf (fun _ hf => ?_) (fun _ hf => ?_)
        · refine r_bipush hB (v := (-9)) (by decide +kernel : decode cX11_deviation 85 = .ok (.bipush (-9), 2)) (by decide +kernel) ?_
          obtain rfl := Option.some.inj hf
          obtain ⟨rfl, rfl⟩ := hk
          exact r_iret hB (by decide +kernel : decode cX11_deviation 87 = .ok (.ireturn, 1))
        · refine r_aload_n hB 0 rfl (by decide +kernel : decode cX11_deviation 88 = .ok (.aload_n 0, 1)) rfl ?_
          refine r_gR hB cf11 0 (by decide) (own := "PulseRemote") rfl (Or.inl k_465) (by decide +kernel) (by decide +kernel : decode cX11_deviation 89 = .ok (.getfield 12, 3)) hf (fun x89 hf => ?_)
          refine r_gR hB cf7 0 (by decide) (own := "PulseRemote") rfl (Or.inr ⟨_, k_212⟩) (by decide +kernel) (by decide +kernel : decode cX11_deviation 92 = .ok (.getfield 84, 3)) hf (fun x92 hf => ?_)
          refine r_aload_n hB 0 rfl (by decide +kernel : decode cX11_deviation 95 = .ok (.aload_n 0, 1)) rfl ?_
          refine r_gR hB cf11 8 (by decide) (own := "PulseRemote") rfl (Or.inl k_473) (by decide +kernel) (by decide +kernel : decode cX11_deviation 96 = .ok (.getfield 55, 3)) hf (fun x96 hf => ?_)
          refine r_gI hB cf2 0 (by decide) (own := "PulseRemote") rfl (Or.inr ⟨_, k_296⟩) (by decide +kernel) (by decide +kernel : decode cX11_deviation 99 = .ok (.getfield 302, 3)) hf (fun x99 hf => ?_)
          refine r_cVr hB [.int x99] [] cf8 (own := "PulseRemote") rfl cmX8_protocolAt imX8_protocolAt (Or.inl k_569) (by decide) rfl rfl rfl (Nat.le_of_ble_eq_true rfl) (by decide +kernel : decode cX11_deviation 102 = .ok (.invokevirtual 102, 3)) (fun z hz => m_X8_protocolAt _ _ _ _ hz) rfl hf (fun z102 hf => ?_)
          refine r_astore_n hB (by decide +kernel : decode cX11_deviation 105 = .ok (.astore_n 3, 1)) rfl (by decide) rfl ?_
          refine ww_lv (lv' := [(3, .ref (b + z102.1)), (0, .ref (b + l0)), (1, .int l1), (2, .int l2)]) rfl ?_
          refine r_aload_n hB 1 rfl (by decide +kernel : decode cX11_deviation 106 = .ok (.aload_n 0, 1)) rfl ?_
          refine r_gR hB cf11 8 (by decide) (own := "PulseRemote") rfl (Or.inl k_473) (by decide +kernel) (by decide +kernel : decode cX11_deviation 107 = .ok (.getfield 55, 3)) hf (fun x107 hf => ?_)
          refine r_cVi hB [] [] cf2 (own := "PulseRemote") rfl cmX2_isCode imX2_isCode (Or.inl k_1005) (by decide) rfl rfl rfl (Nat.le_of_ble_eq_true rfl) (by decide +kernel : decode cX11_deviation 110 = .ok (.invokevirtual 308, 3)) (fun z hz => m_X2_isCode _ _ _ _ hz) rfl hf (fun z110 hf => ?_)
          refine r_if_eq hB (tgt := 134) (by decide +kernel : decode cX11_deviation 113 = .ok (.ifCond .eq 21, 3)) (by decide) hf (fun _ hf => ?_) (fun _ hf => ?_)
          · refine r_aload_n hB 0 rfl (by decide +kernel : decode cX11_deviation 134 = .ok (.aload_n 3, 1)) rfl ?_
            refine r_aload_n hB 1 rfl (by decide +kernel : decode cX11_deviation 135 = .ok (.aload_n 0, 1)) rfl ?_
            refine r_gR hB cf11 5 (by decide) (own := "PulseRemote") rfl (Or.inl k_470) (by decide +kernel) (by decide +kernel : decode cX11_deviation 136 = .ok (.getfield 37, 3)) hf (fun x136 hf => ?_)
            refine r_cVv hB [.ref (b + x136)] [] cf6 (own := "PulseRemote") rfl cmX6_writeShortFrame imX6_writeShortFrame (Or.inl k_889) (by decide) rfl rfl rfl (Nat.le_of_ble_eq_true rfl) (by decide +kernel : decode cX11_deviation 139 = .ok (.invokevirtual 256, 3)) (fun z hz => m_X6_writeShortFrame _ _ _ _ hz) rfl hf (fun z139 hf => ?_)
            exact WW.sub [1, 3] rfl (t_X11_deviation_142 hB hf hk)
          · refine r_aload_n hB 0 rfl (by decide +kernel : decode cX11_deviation 116 = .ok (.aload_n 3, 1)) rfl ?_
            refine r_aload_n hB 1 rfl (by decide +kernel : decode cX11_deviation 117 = .ok (.aload_n 0, 1)) rfl ?_
            refine r_gR hB cf11 8 (by decide) (own := "PulseRemote") rfl (Or.inl k_473) (by decide +kernel) (by decide +kernel : decode cX11_deviation 118 = .ok (.getfield 55, 3)) hf (fun x118 hf => ?_)
            refine r_gI hB cf2 1 (by decide) (own := "PulseRemote") rfl (Or.inr ⟨_, k_299⟩) (by decide +kernel) (by decide +kernel : decode cX11_deviation 121 = .ok (.getfield 305, 3)) hf (fun x121 hf => ?_)
            refine r_aload_n hB 1 rfl (by decide +kernel : decode cX11_deviation 124 = .ok (.aload_n 0, 1)) rfl ?_
            refine r_gR hB cf11 5 (by decide) (own := "PulseRemote") rfl (Or.inl k_470) (by decide +kernel) (by decide +kernel : decode cX11_deviation 125 = .ok (.getfield 37, 3)) hf (fun x125 hf => ?_)
            refine r_cVv hB [.int x121, .ref (b + x125)] [] cf6 (own := "PulseRemote") rfl cmX6_writeFrame imX6_writeFrame (Or.inl k_863) (by decide) rfl rfl rfl (Nat.le_of_ble_eq_true rfl) (by decide +kernel : decode cX11_deviation 128 = .ok (.invokevirtual 248, 3)) (fun z hz => m_X6_writeFrame _ _ _ _ hz) rfl hf (fun z128 hf => ?_)
            refine r_goto hB (tgt := 142) (by decide +kernel : decode cX11_deviation 131 = .ok (.goto 11, 3)) (by decide) ?_
            exact WW.sub [1, 3] rfl (t_X11_deviation_142 hB hf hk)
      · refine r_bipush hB (v := (-9)) (by decide +kernel : decode cX11_deviation 46 = .ok (.bipush (-9), 2)) (by decide +kernel) ?_
        obtain rfl := Option.some.inj hf
        obtain ⟨rfl, rfl⟩ := hk
        exact r_iret hB (by decide +kernel : decode cX11_deviation 48 = .ok (.ireturn, 1))
    · refine r_iconst hB (v := (-1)) (by decide +kernel : decode cX11_deviation 11 = .ok (.iconst (-1), 1)) (by decide +kernel) ?_
      obtain rfl := Option.some.inj hf
      obtain ⟨rfl, rfl⟩ := hk
      exact r_iret hB (by decide +kernel : decode cX11_deviation 12 = .ok (.ireturn, 1))
theorem m_X11_deviation (l : Launch) (D : va_G) (cy : Nat → ClassId) (b : Nat) {l0 : Nat} {l1 : Int32} {l2 : Int32} {μ : MS} {z : Int32 × MS} (hf : f_X11_deviation l0 l1 l2 μ = some z) : Met l yX11_deviation (.code yX11_deviation cX11_deviation 4 (some .int) :: GW) rmX11_deviation (Pw D cy b [.ref (b + l0), .int l1, .int l2] μ) (Qw D cy b (some (.int z.1)) (z.2)) rmX11_deviation.cells rmX11_deviation.slots (fun q => b ≤ q) :=
  met_of (by decide) (Nat.le_of_ble_eq_true rfl) (fun X hB _ => (t_X11_deviation_0 hB hf ⟨rfl, rfl⟩))
-- PulseRemote$FrameList.spaceBefore(I)I
set_option maxHeartbeats 4000000 in
set_option maxRecDepth 100000 in
theorem t_X3_spaceBefore_0 {X : BX} {D : va_G} {cy : Nat → ClassId} {b : Nat} {r : Option Value} {μ' : MS} (hB : BB X D cy b yX3_spaceBefore cX3_spaceBefore 2 (some .int) rmX3_spaceBefore) {l0 : Nat} {l1 : Int32} {μ : MS} {z : (Int32 × MS)} (hf : f_X3_spaceBefore l0 l1 μ = some z) (hk : (fun z : Int32 × MS => r = some (.int z.1) ∧ μ' = z.2) z) : WW X D cy b r μ' 2 0 0 0 [(0, .ref (b + l0)), (1, .int l1)] [] μ := by
  unfold f_X3_spaceBefore at hf
  refine r_aload_n hB 0 rfl (by decide +kernel : decode cX3_spaceBefore 0 = .ok (.aload_n 0, 1)) rfl ?_
  refine r_gR hB cf3 3 (by decide) (own := "PulseRemote$FrameList") rfl (Or.inl k_278) (by decide +kernel) (by decide +kernel : decode cX3_spaceBefore 1 = .ok (.getfield 21, 3)) hf (fun x1 hf => ?_)
  refine r_aload_n hB 0 rfl (by decide +kernel : decode cX3_spaceBefore 4 = .ok (.aload_n 0, 1)) rfl ?_
  refine r_iload_n hB 1 rfl (by decide +kernel : decode cX3_spaceBefore 5 = .ok (.iload_n 1, 1)) rfl ?_
  refine r_cVi hB [.int l1] [.ref (b + x1)] cf3 (own := "PulseRemote$FrameList") rfl cmX3_startOf imX3_startOf (Or.inl k_631) (by decide) rfl rfl rfl (Nat.le_of_ble_eq_true rfl) (by decide +kernel : decode cX3_spaceBefore 6 = .ok (.invokevirtual 51, 3)) (fun z hz => m_X3_startOf _ _ _ _ hz) rfl hf (fun z6 hf => ?_)
  refine r_iconst hB (v := 1) (by decide +kernel : decode cX3_spaceBefore 9 = .ok (.iconst 1, 1)) (by decide +kernel) ?_
  refine r_isub hB (by decide +kernel : decode cX3_spaceBefore 10 = .ok (.isub, 1)) ?_
  refine r_cVi hB [.int (z6.1 - 1)] [] cf10 (own := "PulseRemote$FrameList") rfl cmX10_at imX10_at (Or.inl k_606) (by decide) rfl rfl rfl (Nat.le_of_ble_eq_true rfl) (by decide +kernel : decode cX3_spaceBefore 11 = .ok (.invokevirtual 40, 3)) (fun z hz => m_X10_at _ _ _ _ hz) rfl hf (fun z11 hf => ?_)
  obtain rfl := Option.some.inj hf
  obtain ⟨rfl, rfl⟩ := hk
  exact r_iret hB (by decide +kernel : decode cX3_spaceBefore 14 = .ok (.ireturn, 1))
theorem m_X3_spaceBefore (l : Launch) (D : va_G) (cy : Nat → ClassId) (b : Nat) {l0 : Nat} {l1 : Int32} {μ : MS} {z : Int32 × MS} (hf : f_X3_spaceBefore l0 l1 μ = some z) : Met l yX3_spaceBefore (.code yX3_spaceBefore cX3_spaceBefore 2 (some .int) :: GW) rmX3_spaceBefore (Pw D cy b [.ref (b + l0), .int l1] μ) (Qw D cy b (some (.int z.1)) (z.2)) rmX3_spaceBefore.cells rmX3_spaceBefore.slots (fun q => b ≤ q) :=
  met_of (by decide) (Nat.le_of_ble_eq_true rfl) (fun X hB _ => (t_X3_spaceBefore_0 hB hf ⟨rfl, rfl⟩))
-- PulseRemote$PressList.continuesLatest(LPulseRemote$Decoder;LPulseRemote$Table;)Z
set_option maxHeartbeats 4000000 in
set_option maxRecDepth 100000 in
theorem t_X5_continuesLatest_0 {X : BX} {D : va_G} {cy : Nat → ClassId} {b : Nat} {r : Option Value} {μ' : MS} (hB : BB X D cy b yX5_continuesLatest cX5_continuesLatest 3 (some .boolean) rmX5_continuesLatest) {l0 : Nat} {l1 : Nat} {l2 : Nat} {μ : MS} {z : (Int32 × MS)} (hf : f_X5_continuesLatest l0 l1 l2 μ = some z) (hk : (fun z : Int32 × MS => r = some (.int z.1) ∧ μ' = z.2) z) : WW X D cy b r μ' 3 0 0 0 [(0, .ref (b + l0)), (1, .ref (b + l1)), (2, .ref (b + l2))] [] μ := by
  unfold f_X5_continuesLatest at hf
  refine r_aload_n hB 1 rfl (by decide +kernel : decode cX5_continuesLatest 0 = .ok (.aload_n 1, 1)) rfl ?_
  refine r_cVi hB [] [] cf2 (own := "PulseRemote$PressList") rfl cmX2_isDecoded imX2_isDecoded (Or.inl k_1041) (by decide) rfl rfl rfl (Nat.le_of_ble_eq_true rfl) (by decide +kernel : decode cX5_continuesLatest 1 = .ok (.invokevirtual 81, 3)) (fun z hz => m_X2_isDecoded _ _ _ _ hz) rfl hf (fun z1 hf => ?_)
  refine r_if_eq hB (tgt := 18) (by decide +kernel : decode cX5_continuesLatest 4 = .ok (.ifCond .eq 14, 3)) (by decide) hf (fun _ hf => ?_) (fun _ hf => ?_)
  · refine r_iconst hB (v := 0) (by decide +kernel : decode cX5_continuesLatest 18 = .ok (.iconst 0, 1)) (by decide +kernel) ?_
    obtain rfl := Option.some.inj hf
    obtain ⟨rfl, rfl⟩ := hk
    exact r_zret hB (Or.inl rfl) (by decide +kernel : decode cX5_continuesLatest 19 = .ok (.ireturn, 1))
  · refine r_aload_n hB 1 rfl (by decide +kernel : decode cX5_continuesLatest 7 = .ok (.aload_n 1, 1)) rfl ?_
    refine r_gI hB cf2 0 (by decide) (own := "PulseRemote$PressList") rfl (Or.inr ⟨_, k_295⟩) (by decide +kernel) (by decide +kernel : decode cX5_continuesLatest 8 = .ok (.getfield 84, 3)) hf (fun x8 hf => ?_)
    refine r_aload_n hB 0 rfl (by decide +kernel : decode cX5_continuesLatest 11 = .ok (.aload_n 0, 1)) rfl ?_
    refine r_gI hB cf5 6 (by decide) (own := "PulseRemote$PressList") rfl (Or.inl k_335) (by decide +kernel) (by decide +kernel : decode cX5_continuesLatest 12 = .ok (.getfield 87, 3)) hf (fun x12 hf => ?_)
    refine r_icmp_eq hB (tgt := 20) (by decide +kernel : decode cX5_continuesLatest 15 = .ok (.if_icmp .eq 5, 3)) (by decide) hf (fun _ hf => ?_) (fun _ hf => ?_)
    · refine r_aload_n hB 1 rfl (by decide +kernel : decode cX5_continuesLatest 20 = .ok (.aload_n 1, 1)) rfl ?_
      refine r_cVi hB [] [] cf2 (own := "PulseRemote$PressList") rfl cmX2_isCode imX2_isCode (Or.inl k_1042) (by decide) rfl rfl rfl (Nat.le_of_ble_eq_true rfl) (by decide +kernel : decode cX5_continuesLatest 21 = .ok (.invokevirtual 73, 3)) (fun z hz => m_X2_isCode _ _ _ _ hz) rfl hf (fun z21 hf => ?_)
      refine r_if_ne hB (tgt := 29) (by decide +kernel : decode cX5_continuesLatest 24 = .ok (.ifCond .ne 5, 3)) (by decide) hf (fun _ hf => ?_) (fun _ hf => ?_)
      · refine r_iconst hB (v := 1) (by decide +kernel : decode cX5_continuesLatest 27 = .ok (.iconst 1, 1)) (by decide +kernel) ?_
        obtain rfl := Option.some.inj hf
        obtain ⟨rfl, rfl⟩ := hk
        exact r_zret hB (Or.inr rfl) (by decide +kernel : decode cX5_continuesLatest 28 = .ok (.ireturn, 1))
      · refine r_aload_n hB 1 rfl (by decide +kernel : decode cX5_continuesLatest 29 = .ok (.aload_n 1, 1)) rfl ?_
        refine r_gI hB cf2 1 (by decide) (own := "PulseRemote$PressList") rfl (Or.inr ⟨_, k_298⟩) (by decide +kernel) (by decide +kernel : decode cX5_continuesLatest 30 = .ok (.getfield 90, 3)) hf (fun x30 hf => ?_)
        refine r_aload_n hB 0 rfl (by decide +kernel : decode cX5_continuesLatest 33 = .ok (.aload_n 0, 1)) rfl ?_
        refine r_gI hB cf5 7 (by decide) (own := "PulseRemote$PressList") rfl (Or.inl k_336) (by decide +kernel) (by decide +kernel : decode cX5_continuesLatest 34 = .ok (.getfield 93, 3)) hf (fun x34 hf => ?_)
        refine r_icmp_ne hB (tgt := 59) (by decide +kernel : decode cX5_continuesLatest 37 = .ok (.if_icmp .ne 22, 3)) (by decide) hf (fun _ hf => ?_) (fun _ hf => ?_)
        · refine r_aload_n hB 2 rfl (by decide +kernel : decode cX5_continuesLatest 40 = .ok (.aload_n 2, 1)) rfl ?_
          refine r_aload_n hB 0 rfl (by decide +kernel : decode cX5_continuesLatest 41 = .ok (.aload_n 0, 1)) rfl ?_
          refine r_gI hB cf5 6 (by decide) (own := "PulseRemote$PressList") rfl (Or.inl k_335) (by decide +kernel) (by decide +kernel : decode cX5_continuesLatest 42 = .ok (.getfield 87, 3)) hf (fun x42 hf => ?_)
          refine r_cVr hB [.int x42] [] cf8 (own := "PulseRemote$PressList") rfl cmX8_protocolAt imX8_protocolAt (Or.inl k_1043) (by decide) rfl rfl rfl (Nat.le_of_ble_eq_true rfl) (by decide +kernel : decode cX5_continuesLatest 45 = .ok (.invokevirtual 96, 3)) (fun z hz => m_X8_protocolAt _ _ _ _ hz) rfl hf (fun z45 hf => ?_)
          refine r_gI hB cf6 8 (by decide) (own := "PulseRemote$PressList") rfl (Or.inr ⟨_, k_148⟩) (by decide +kernel) (by decide +kernel : decode cX5_continuesLatest 48 = .ok (.getfield 102, 3)) hf (fun x48 hf => ?_)
          refine r_iconst hB (v := 1) (by decide +kernel : decode cX5_continuesLatest 51 = .ok (.iconst 1, 1)) (by decide +kernel) ?_
          refine r_icmp_eq hB (tgt := 59) (by decide +kernel : decode cX5_continuesLatest 52 = .ok (.if_icmp .eq 7, 3)) (by decide) hf (fun _ hf => ?_) (fun _ hf => ?_)
          · refine r_iconst hB (v := 0) (by decide +kernel : decode cX5_continuesLatest 59 = .ok (.iconst 0, 1)) (by decide +kernel) ?_
            obtain rfl := Option.some.inj hf
            obtain ⟨rfl, rfl⟩ := hk
            exact r_zret hB (Or.inl rfl) (by decide +kernel : decode cX5_continuesLatest 60 = .ok (.ireturn, 1))
          · refine r_iconst hB (v := 1) (by decide +kernel : decode cX5_continuesLatest 55 = .ok (.iconst 1, 1)) (by decide +kernel) ?_
            refine r_goto hB (tgt := 60) (by decide +kernel : decode cX5_continuesLatest 56 = .ok (.goto 4, 3)) (by decide) ?_
            obtain rfl := Option.some.inj hf
            obtain ⟨rfl, rfl⟩ := hk
            exact r_zret hB (Or.inr rfl) (by decide +kernel : decode cX5_continuesLatest 60 = .ok (.ireturn, 1))
        · refine r_iconst hB (v := 0) (by decide +kernel : decode cX5_continuesLatest 59 = .ok (.iconst 0, 1)) (by decide +kernel) ?_
          obtain rfl := Option.some.inj hf
          obtain ⟨rfl, rfl⟩ := hk
          exact r_zret hB (Or.inl rfl) (by decide +kernel : decode cX5_continuesLatest 60 = .ok (.ireturn, 1))
    · refine r_iconst hB (v := 0) (by decide +kernel : decode cX5_continuesLatest 18 = .ok (.iconst 0, 1)) (by decide +kernel) ?_
      obtain rfl := Option.some.inj hf
      obtain ⟨rfl, rfl⟩ := hk
      exact r_zret hB (Or.inl rfl) (by decide +kernel : decode cX5_continuesLatest 19 = .ok (.ireturn, 1))
theorem m_X5_continuesLatest (l : Launch) (D : va_G) (cy : Nat → ClassId) (b : Nat) {l0 : Nat} {l1 : Nat} {l2 : Nat} {μ : MS} {z : Int32 × MS} (hf : f_X5_continuesLatest l0 l1 l2 μ = some z) : Met l yX5_continuesLatest (.code yX5_continuesLatest cX5_continuesLatest 3 (some .boolean) :: GW) rmX5_continuesLatest (Pw D cy b [.ref (b + l0), .ref (b + l1), .ref (b + l2)] μ) (Qw D cy b (some (.int z.1)) (z.2)) rmX5_continuesLatest.cells rmX5_continuesLatest.slots (fun q => b ≤ q) :=
  met_of (by decide) (Nat.le_of_ble_eq_true rfl) (fun X hB _ => (t_X5_continuesLatest_0 hB hf ⟨rfl, rfl⟩))
-- PulseRemote$PressList.countLatest()V
set_option maxHeartbeats 4000000 in
set_option maxRecDepth 100000 in
theorem t_X5_countLatest_0 {X : BX} {D : va_G} {cy : Nat → ClassId} {b : Nat} {r : Option Value} {μ' : MS} (hB : BB X D cy b yX5_countLatest cX5_countLatest 1 none rmX5_countLatest) {l0 : Nat} {μ : MS} {z : MS} (hf : f_X5_countLatest l0 μ = some z) (hk : (fun z : MS => r = none ∧ μ' = z) z) : WW X D cy b r μ' 1 0 0 0 [(0, .ref (b + l0))] [] μ := by
  unfold f_X5_countLatest at hf
  refine r_aload_n hB 0 rfl (by decide +kernel : decode cX5_countLatest 0 = .ok (.aload_n 0, 1)) rfl ?_
  refine r_gI hB cf5 5 (by decide) (own := "PulseRemote$PressList") rfl (Or.inl k_334) (by decide +kernel) (by decide +kernel : decode cX5_countLatest 1 = .ok (.getfield 107, 3)) hf (fun x1 hf => ?_)
  refine r_if_eq hB (tgt := 38) (by decide +kernel : decode cX5_countLatest 4 = .ok (.ifCond .eq 34, 3)) (by decide) hf (fun _ hf => ?_) (fun _ hf => ?_)
  · obtain rfl := Option.some.inj hf
    obtain ⟨rfl, rfl⟩ := hk
    exact r_vret hB (by decide +kernel : decode cX5_countLatest 38 = .ok (.return_, 1))
  · refine r_aload_n hB 0 rfl (by decide +kernel : decode cX5_countLatest 7 = .ok (.aload_n 0, 1)) rfl ?_
    refine r_gI hB cf5 3 (by decide) (own := "PulseRemote$PressList") rfl (Or.inl k_330) (by decide +kernel) (by decide +kernel : decode cX5_countLatest 8 = .ok (.getfield 37, 3)) hf (fun x8 hf => ?_)
    refine r_if_le hB (tgt := 38) (by decide +kernel : decode cX5_countLatest 11 = .ok (.ifCond .le 27, 3)) (by decide) hf (fun _ hf => ?_) (fun _ hf => ?_)
    · obtain rfl := Option.some.inj hf
      obtain ⟨rfl, rfl⟩ := hk
      exact r_vret hB (by decide +kernel : decode cX5_countLatest 38 = .ok (.return_, 1))
    · refine r_aload_n hB 0 rfl (by decide +kernel : decode cX5_countLatest 14 = .ok (.aload_n 0, 1)) rfl ?_
      refine r_gI hB cf5 3 (by decide) (own := "PulseRemote$PressList") rfl (Or.inl k_330) (by decide +kernel) (by decide +kernel : decode cX5_countLatest 15 = .ok (.getfield 37, 3)) hf (fun x15 hf => ?_)
      refine r_bipush hB (v := 30) (by decide +kernel : decode cX5_countLatest 18 = .ok (.bipush 30, 2)) (by decide +kernel) ?_
      refine r_icmp_gt hB (tgt := 38) (by decide +kernel : decode cX5_countLatest 20 = .ok (.if_icmp .gt 18, 3)) (by decide) hf (fun _ hf => ?_) (fun _ hf => ?_)
      · obtain rfl := Option.some.inj hf
        obtain ⟨rfl, rfl⟩ := hk
        exact r_vret hB (by decide +kernel : decode cX5_countLatest 38 = .ok (.return_, 1))
      · refine r_aload_n hB 0 rfl (by decide +kernel : decode cX5_countLatest 23 = .ok (.aload_n 0, 1)) rfl ?_
        refine r_gR hB cf5 2 (by decide) (own := "PulseRemote$PressList") rfl (Or.inl k_328) (by decide +kernel) (by decide +kernel : decode cX5_countLatest 24 = .ok (.getfield 18, 3)) hf (fun x24 hf => ?_)
        refine r_aload_n hB 0 rfl (by decide +kernel : decode cX5_countLatest 27 = .ok (.aload_n 0, 1)) rfl ?_
        refine r_gI hB cf5 3 (by decide) (own := "PulseRemote$PressList") rfl (Or.inl k_330) (by decide +kernel) (by decide +kernel : decode cX5_countLatest 28 = .ok (.getfield 37, 3)) hf (fun x28 hf => ?_)
        refine r_iconst hB (v := 1) (by decide +kernel : decode cX5_countLatest 31 = .ok (.iconst 1, 1)) (by decide +kernel) ?_
        refine r_isub hB (by decide +kernel : decode cX5_countLatest 32 = .ok (.isub, 1)) ?_
        refine r_dup2 hB (by decide +kernel : decode cX5_countLatest 33 = .ok (.dup2, 1)) rfl rfl ?_
        refine r_iald hB (by decide +kernel : decode cX5_countLatest 34 = .ok (.iaload, 1)) hf (fun x34 hf => ?_)
        refine r_iconst hB (v := 1) (by decide +kernel : decode cX5_countLatest 35 = .ok (.iconst 1, 1)) (by decide +kernel) ?_
        refine r_iadd hB (by decide +kernel : decode cX5_countLatest 36 = .ok (.iadd, 1)) ?_
        refine r_iast hB (by decide +kernel : decode cX5_countLatest 37 = .ok (.iastore, 1)) hf (fun m37 hf => ?_)
        obtain rfl := Option.some.inj hf
        obtain ⟨rfl, rfl⟩ := hk
        exact r_vret hB (by decide +kernel : decode cX5_countLatest 38 = .ok (.return_, 1))
theorem m_X5_countLatest (l : Launch) (D : va_G) (cy : Nat → ClassId) (b : Nat) {l0 : Nat} {μ : MS} {z : MS} (hf : f_X5_countLatest l0 μ = some z) : Met l yX5_countLatest (.code yX5_countLatest cX5_countLatest 1 none :: GW) rmX5_countLatest (Pw D cy b [.ref (b + l0)] μ) (Qw D cy b (none) (z)) rmX5_countLatest.cells rmX5_countLatest.slots (fun q => b ≤ q) :=
  met_of (by decide) (Nat.le_of_ble_eq_true rfl) (fun X hB _ => (t_X5_countLatest_0 hB hf ⟨rfl, rfl⟩))
-- PulseRemote$PressList.begin(LPulseRemote$Decoder;)V
set_option maxHeartbeats 4000000 in
set_option maxRecDepth 100000 in
theorem t_X5_begin_31 {X : BX} {D : va_G} {cy : Nat → ClassId} {b : Nat} {r : Option Value} {μ' : MS} (hB : BB X D cy b yX5_begin cX5_begin 2 none rmX5_begin) {l0 : Nat} {s0 : Int32} {s1 : Nat} {μ : MS} {z : MS} (hf : f_X5_begin_31 l0 s0 s1 μ = some z) (hk : (fun z : MS => r = none ∧ μ' = z) z) : WW X D cy b r μ' 2 0 0 31 [(0, .ref (b + l0))] [.int s0, .ref (b + s1)] μ := by
  unfold f_X5_begin_31 at hf
  refine r_pZ hB cf5 5 (by decide) (own := "PulseRemote$PressList") rfl (Or.inl k_334) (Or.inl rfl) rfl (by decide +kernel : decode cX5_begin 31 = .ok (.putfield 107, 3)) hf (fun m31 hf => ?_)
  refine r_aload_n hB 0 rfl (by decide +kernel : decode cX5_begin 34 = .ok (.aload_n 0, 1)) rfl ?_
  refine r_gI hB cf5 5 (by decide) (own := "PulseRemote$PressList") rfl (Or.inl k_334) (by decide +kernel) (by decide +kernel : decode cX5_begin 35 = .ok (.getfield 107, 3)) hf (fun x35 hf => ?_)
  refine r_if_eq hB (tgt := 87) (by decide +kernel : decode cX5_begin 38 = .ok (.ifCond .eq 49, 3)) (by decide) hf (fun _ hf => ?_) (fun _ hf => ?_)
  · obtain rfl := Option.some.inj hf
    obtain ⟨rfl, rfl⟩ := hk
    exact r_vret hB (by decide +kernel : decode cX5_begin 87 = .ok (.return_, 1))
  · refine r_aload_n hB 0 rfl (by decide +kernel : decode cX5_begin 41 = .ok (.aload_n 0, 1)) rfl ?_
    refine r_gR hB cf5 0 (by decide) (own := "PulseRemote$PressList") rfl (Or.inl k_324) (by decide +kernel) (by decide +kernel : decode cX5_begin 42 = .ok (.getfield 9, 3)) hf (fun x42 hf => ?_)
    refine r_aload_n hB 0 rfl (by decide +kernel : decode cX5_begin 45 = .ok (.aload_n 0, 1)) rfl ?_
    refine r_gI hB cf5 3 (by decide) (own := "PulseRemote$PressList") rfl (Or.inl k_330) (by decide +kernel) (by decide +kernel : decode cX5_begin 46 = .ok (.getfield 37, 3)) hf (fun x46 hf => ?_)
    refine r_aload_n hB 0 rfl (by decide +kernel : decode cX5_begin 49 = .ok (.aload_n 0, 1)) rfl ?_
    refine r_gI hB cf5 6 (by decide) (own := "PulseRemote$PressList") rfl (Or.inl k_335) (by decide +kernel) (by decide +kernel : decode cX5_begin 50 = .ok (.getfield 87, 3)) hf (fun x50 hf => ?_)
    refine r_iast hB (by decide +kernel : decode cX5_begin 53 = .ok (.iastore, 1)) hf (fun m53 hf => ?_)
    refine r_aload_n hB 0 rfl (by decide +kernel : decode cX5_begin 54 = .ok (.aload_n 0, 1)) rfl ?_
    refine r_gR hB cf5 1 (by decide) (own := "PulseRemote$PressList") rfl (Or.inl k_326) (by decide +kernel) (by decide +kernel : decode cX5_begin 55 = .ok (.getfield 15, 3)) hf (fun x55 hf => ?_)
    refine r_aload_n hB 0 rfl (by decide +kernel : decode cX5_begin 58 = .ok (.aload_n 0, 1)) rfl ?_
    refine r_gI hB cf5 3 (by decide) (own := "PulseRemote$PressList") rfl (Or.inl k_330) (by decide +kernel) (by decide +kernel : decode cX5_begin 59 = .ok (.getfield 37, 3)) hf (fun x59 hf => ?_)
    refine r_aload_n hB 0 rfl (by decide +kernel : decode cX5_begin 62 = .ok (.aload_n 0, 1)) rfl ?_
    refine r_gI hB cf5 7 (by decide) (own := "PulseRemote$PressList") rfl (Or.inl k_336) (by decide +kernel) (by decide +kernel : decode cX5_begin 63 = .ok (.getfield 93, 3)) hf (fun x63 hf => ?_)
    refine r_iast hB (by decide +kernel : decode cX5_begin 66 = .ok (.iastore, 1)) hf (fun m66 hf => ?_)
    refine r_aload_n hB 0 rfl (by decide +kernel : decode cX5_begin 67 = .ok (.aload_n 0, 1)) rfl ?_
    refine r_gR hB cf5 2 (by decide) (own := "PulseRemote$PressList") rfl (Or.inl k_328) (by decide +kernel) (by decide +kernel : decode cX5_begin 68 = .ok (.getfield 18, 3)) hf (fun x68 hf => ?_)
    refine r_aload_n hB 0 rfl (by decide +kernel : decode cX5_begin 71 = .ok (.aload_n 0, 1)) rfl ?_
    refine r_gI hB cf5 3 (by decide) (own := "PulseRemote$PressList") rfl (Or.inl k_330) (by decide +kernel) (by decide +kernel : decode cX5_begin 72 = .ok (.getfield 37, 3)) hf (fun x72 hf => ?_)
    refine r_iconst hB (v := 1) (by decide +kernel : decode cX5_begin 75 = .ok (.iconst 1, 1)) (by decide +kernel) ?_
    refine r_iast hB (by decide +kernel : decode cX5_begin 76 = .ok (.iastore, 1)) hf (fun m76 hf => ?_)
    refine r_aload_n hB 0 rfl (by decide +kernel : decode cX5_begin 77 = .ok (.aload_n 0, 1)) rfl ?_
    refine r_dup hB (by decide +kernel : decode cX5_begin 78 = .ok (.dup, 1)) rfl ?_
    refine r_gI hB cf5 3 (by decide) (own := "PulseRemote$PressList") rfl (Or.inl k_330) (by decide +kernel) (by decide +kernel : decode cX5_begin 79 = .ok (.getfield 37, 3)) hf (fun x79 hf => ?_)
    refine r_iconst hB (v := 1) (by decide +kernel : decode cX5_begin 82 = .ok (.iconst 1, 1)) (by decide +kernel) ?_
    refine r_iadd hB (by decide +kernel : decode cX5_begin 83 = .ok (.iadd, 1)) ?_
    refine r_pI hB cf5 3 (by decide) (own := "PulseRemote$PressList") rfl (Or.inl k_330) (Or.inl rfl) rfl (by decide +kernel : decode cX5_begin 84 = .ok (.putfield 37, 3)) hf (fun m84 hf => ?_)
    obtain rfl := Option.some.inj hf
    obtain ⟨rfl, rfl⟩ := hk
    exact r_vret hB (by decide +kernel : decode cX5_begin 87 = .ok (.return_, 1))
set_option maxHeartbeats 4000000 in
set_option maxRecDepth 100000 in
theorem t_X5_begin_0 {X : BX} {D : va_G} {cy : Nat → ClassId} {b : Nat} {r : Option Value} {μ' : MS} (hB : BB X D cy b yX5_begin cX5_begin 2 none rmX5_begin) {l0 : Nat} {l1 : Nat} {μ : MS} {z : MS} (hf : f_X5_begin l0 l1 μ = some z) (hk : (fun z : MS => r = none ∧ μ' = z) z) : WW X D cy b r μ' 2 0 0 0 [(0, .ref (b + l0)), (1, .ref (b + l1))] [] μ := by
  unfold f_X5_begin at hf
  refine r_aload_n hB 0 rfl (by decide +kernel : decode cX5_begin 0 = .ok (.aload_n 0, 1)) rfl ?_
  refine r_aload_n hB 1 rfl (by decide +kernel : decode cX5_begin 1 = .ok (.aload_n 1, 1)) rfl ?_
  refine r_gI hB cf2 0 (by decide) (own := "PulseRemote$PressList") rfl (Or.inr ⟨_, k_295⟩) (by decide +kernel) (by decide +kernel : decode cX5_begin 2 = .ok (.getfield 84, 3)) hf (fun x2 hf => ?_)
  refine r_pI hB cf5 6 (by decide) (own := "PulseRemote$PressList") rfl (Or.inl k_335) (Or.inl rfl) rfl (by decide +kernel : decode cX5_begin 5 = .ok (.putfield 87, 3)) hf (fun m5 hf => ?_)
  refine r_aload_n hB 0 rfl (by decide +kernel : decode cX5_begin 8 = .ok (.aload_n 0, 1)) rfl ?_
  refine r_aload_n hB 1 rfl (by decide +kernel : decode cX5_begin 9 = .ok (.aload_n 1, 1)) rfl ?_
  refine r_gI hB cf2 1 (by decide) (own := "PulseRemote$PressList") rfl (Or.inr ⟨_, k_298⟩) (by decide +kernel) (by decide +kernel : decode cX5_begin 10 = .ok (.getfield 90, 3)) hf (fun x10 hf => ?_)
  refine r_pI hB cf5 7 (by decide) (own := "PulseRemote$PressList") rfl (Or.inl k_336) (Or.inl rfl) rfl (by decide +kernel : decode cX5_begin 13 = .ok (.putfield 93, 3)) hf (fun m13 hf => ?_)
  refine r_aload_n hB 0 rfl (by decide +kernel : decode cX5_begin 16 = .ok (.aload_n 0, 1)) rfl ?_
  refine r_aload_n hB 0 rfl (by decide +kernel : decode cX5_begin 17 = .ok (.aload_n 0, 1)) rfl ?_
  refine r_gI hB cf5 3 (by decide) (own := "PulseRemote$PressList") rfl (Or.inl k_330) (by decide +kernel) (by decide +kernel : decode cX5_begin 18 = .ok (.getfield 37, 3)) hf (fun x18 hf => ?_)
  refine r_bipush hB (v := 30) (by decide +kernel : decode cX5_begin 21 = .ok (.bipush 30, 2)) (by decide +kernel) ?_
  refine r_icmp_ge hB (tgt := 30) (by decide +kernel : decode cX5_begin 23 = .ok (.if_icmp .ge 7, 3)) (by decide) hf (fun _ hf => ?_) (fun _ hf => ?_)
  · refine r_iconst hB (v := 0) (by decide +kernel : decode cX5_begin 30 = .ok (.iconst 0, 1)) (by decide +kernel) ?_
    exact WW.sub [0] rfl (t_X5_begin_31 hB hf hk)
  · refine r_iconst hB (v := 1) (by decide +kernel : decode cX5_begin 26 = .ok (.iconst 1, 1)) (by decide +kernel) ?_
    refine r_goto hB (tgt := 31) (by decide +kernel : decode cX5_begin 27 = .ok (.goto 4, 3)) (by decide) ?_
    exact WW.sub [0] rfl (t_X5_begin_31 hB hf hk)
theorem m_X5_begin (l : Launch) (D : va_G) (cy : Nat → ClassId) (b : Nat) {l0 : Nat} {l1 : Nat} {μ : MS} {z : MS} (hf : f_X5_begin l0 l1 μ = some z) : Met l yX5_begin (.code yX5_begin cX5_begin 2 none :: GW) rmX5_begin (Pw D cy b [.ref (b + l0), .ref (b + l1)] μ) (Qw D cy b (none) (z)) rmX5_begin.cells rmX5_begin.slots (fun q => b ≤ q) :=
  met_of (by decide) (Nat.le_of_ble_eq_true rfl) (fun X hB _ => (t_X5_begin_0 hB hf ⟨rfl, rfl⟩))
-- PulseRemote$PressList.find(LPulseRemote$State;ILPulseRemote$FrameList;LPulseRemote$Decoder;)V
set_option maxHeartbeats 4000000 in
set_option maxRecDepth 100000 in
theorem t_X5_find_143 {X : BX} {D : va_G} {cy : Nat → ClassId} {b : Nat} {r : Option Value} {μ' : MS} (hB : BB X D cy b yX5_find cX5_find 8 none rmX5_find)  {μ : MS} {z : MS} (hf : f_X5_find_143  μ = some z) (hk : (fun z : MS => r = none ∧ μ' = z) z) : WW X D cy b r μ' 8 0 0 143 [] [] μ := by
  unfold f_X5_find_143 at hf
  obtain rfl := Option.some.inj hf
  obtain ⟨rfl, rfl⟩ := hk
  exact r_vret hB (by decide +kernel : decode cX5_find 143 = .ok (.return_, 1))
set_option maxHeartbeats 4000000 in
set_option maxRecDepth 100000 in
theorem t_X5_find_137 {X : BX} {D : va_G} {cy : Nat → ClassId} {b : Nat} {r : Option Value} {μ' : MS} (hB : BB X D cy b yX5_find cX5_find 8 none rmX5_find) {l0 : Nat} {l1 : Nat} {l3 : Nat} {l4 : Nat} {l5 : Int32} {l6 : Int32} {μ : MS} {z : ((Nat × Nat × Nat × Nat × Int32 × Int32 × MS) ⊕ MS)} (hf : f_X5_find_137 l0 l1 l3 l4 l5 l6 μ = some z) (hk : (Sum.elim (fun s : Nat × Nat × Nat × Nat × Int32 × Int32 × MS => WW X D cy b r μ' 8 0 0 29 [(0, .ref (b + s.1)), (1, .ref (b + s.2.1)), (3, .ref (b + s.2.2.1)), (4, .ref (b + s.2.2.2.1)), (5, .int s.2.2.2.2.1), (6, .int s.2.2.2.2.2.1)] [] s.2.2.2.2.2.2) (fun z : MS => r = none ∧ μ' = z)) z) : WW X D cy b r μ' 8 0 0 137 [(0, .ref (b + l0)), (1, .ref (b + l1)), (3, .ref (b + l3)), (4, .ref (b + l4)), (5, .int l5), (6, .int l6)] [] μ := by
  unfold f_X5_find_137 at hf
  refine r_iincB hB 5 rfl (by decide +kernel : decode cX5_find 137 = .ok (.iinc 6 1, 3)) (w := 1) (by decide +kernel) (by decide) hf (fun v137 hf => ?_)
  refine ww_lv (lv' := [(6, .int v137), (0, .ref (b + l0)), (1, .ref (b + l1)), (3, .ref (b + l3)), (4, .ref (b + l4)), (5, .int l5)]) rfl ?_
  refine r_goto hB (tgt := 29) (by decide +kernel : decode cX5_find 140 = .ok (.goto (-111), 3)) (by decide) ?_
  obtain rfl := Option.some.inj hf
  exact WW.sub [1, 2, 3, 4, 5, 0] rfl hk
set_option maxHeartbeats 4000000 in
set_option maxRecDepth 100000 in
theorem t_X5_find_104 {X : BX} {D : va_G} {cy : Nat → ClassId} {b : Nat} {r : Option Value} {μ' : MS} (hB : BB X D cy b yX5_find cX5_find 8 none rmX5_find) {l0 : Nat} {l1 : Nat} {l3 : Nat} {l4 : Nat} {l6 : Int32} {μ : MS} {z : ((Nat × Nat × Nat × Nat × Int32 × Int32 × MS) ⊕ MS)} (hf : f_X5_find_104 l0 l1 l3 l4 l6 μ = some z) (hk : (Sum.elim (fun s : Nat × Nat × Nat × Nat × Int32 × Int32 × MS => WW X D cy b r μ' 8 0 0 29 [(0, .ref (b + s.1)), (1, .ref (b + s.2.1)), (3, .ref (b + s.2.2.1)), (4, .ref (b + s.2.2.2.1)), (5, .int s.2.2.2.2.1), (6, .int s.2.2.2.2.2.1)] [] s.2.2.2.2.2.2) (fun z : MS => r = none ∧ μ' = z)) z) : WW X D cy b r μ' 8 0 0 104 [(0, .ref (b + l0)), (1, .ref (b + l1)), (3, .ref (b + l3)), (4, .ref (b + l4)), (6, .int l6)] [] μ := by
  unfold f_X5_find_104 at hf
  refine r_aload hB 3 rfl (by decide +kernel : decode cX5_find 104 = .ok (.aload 4, 2)) ?_
  refine r_cVi hB [] [] cf2 (own := "PulseRemote$PressList") rfl cmX2_isCode imX2_isCode (Or.inl k_1042) (by decide) rfl rfl rfl (Nat.le_of_ble_eq_true rfl) (by decide +kernel : decode cX5_find 106 = .ok (.invokevirtual 73, 3)) (fun z hz => m_X2_isCode _ _ _ _ hz) rfl hf (fun z106 hf => ?_)
  refine r_if_eq hB (tgt := 124) (by decide +kernel : decode cX5_find 109 = .ok (.ifCond .eq 15, 3)) (by decide) hf (fun _ hf => ?_) (fun _ hf => ?_)
  · refine r_aload_n hB 0 rfl (by decide +kernel : decode cX5_find 124 = .ok (.aload_n 0, 1)) rfl ?_
    refine r_dup hB (by decide +kernel : decode cX5_find 125 = .ok (.dup, 1)) rfl ?_
    refine r_gI hB cf5 4 (by decide) (own := "PulseRemote$PressList") rfl (Or.inl k_332) (by decide +kernel) (by decide +kernel : decode cX5_find 126 = .ok (.getfield 40, 3)) hf (fun x126 hf => ?_)
    refine r_iconst hB (v := 1) (by decide +kernel : decode cX5_find 129 = .ok (.iconst 1, 1)) (by decide +kernel) ?_
    refine r_iadd hB (by decide +kernel : decode cX5_find 130 = .ok (.iadd, 1)) ?_
    refine r_pI hB cf5 4 (by decide) (own := "PulseRemote$PressList") rfl (Or.inl k_332) (Or.inl rfl) rfl (by decide +kernel : decode cX5_find 131 = .ok (.putfield 40, 3)) hf (fun m131 hf => ?_)
    refine r_iconst hB (v := 0) (by decide +kernel : decode cX5_find 134 = .ok (.iconst 0, 1)) (by decide +kernel) ?_
    refine r_istore hB (by decide +kernel : decode cX5_find 135 = .ok (.istore 5, 2)) (by decide) rfl ?_
    refine ww_lv (lv' := [(5, .int 0), (0, .ref (b + l0)), (1, .ref (b + l1)), (3, .ref (b + l3)), (4, .ref (b + l4)), (6, .int l6)]) rfl ?_
    exact WW.sub [1, 2, 3, 4, 0, 5] rfl (t_X5_find_137 hB hf hk)
  · refine r_aload_n hB 0 rfl (by decide +kernel : decode cX5_find 112 = .ok (.aload_n 0, 1)) rfl ?_
    refine r_aload hB 3 rfl (by decide +kernel : decode cX5_find 113 = .ok (.aload 4, 2)) ?_
    refine r_cVv hB [.ref (b + l4)] [] cf5 (own := "PulseRemote$PressList") rfl cmX5_begin imX5_begin (Or.inl k_1048) (by decide) rfl rfl rfl (Nat.le_of_ble_eq_true rfl) (by decide +kernel : decode cX5_find 115 = .ok (.invokevirtual 77, 3)) (fun z hz => m_X5_begin _ _ _ _ hz) rfl hf (fun z115 hf => ?_)
    refine r_iconst hB (v := 1) (by decide +kernel : decode cX5_find 118 = .ok (.iconst 1, 1)) (by decide +kernel) ?_
    refine r_istore hB (by decide +kernel : decode cX5_find 119 = .ok (.istore 5, 2)) (by decide) rfl ?_
    refine ww_lv (lv' := [(5, .int 1), (0, .ref (b + l0)), (1, .ref (b + l1)), (3, .ref (b + l3)), (4, .ref (b + l4)), (6, .int l6)]) rfl ?_
    refine r_goto hB (tgt := 137) (by decide +kernel : decode cX5_find 121 = .ok (.goto 16, 3)) (by decide) ?_
    exact WW.sub [1, 2, 3, 4, 0, 5] rfl (t_X5_find_137 hB hf hk)
set_option maxHeartbeats 4000000 in
set_option maxRecDepth 100000 in
theorem t_X5_find_72 {X : BX} {D : va_G} {cy : Nat → ClassId} {b : Nat} {r : Option Value} {μ' : MS} (hB : BB X D cy b yX5_find cX5_find 8 none rmX5_find) {l0 : Nat} {l1 : Nat} {l3 : Nat} {l4 : Nat} {l5 : Int32} {l6 : Int32} {s0 : Int32} {μ : MS} {z : ((Nat × Nat × Nat × Nat × Int32 × Int32 × MS) ⊕ MS)} (hf : f_X5_find_72 l0 l1 l3 l4 l5 l6 s0 μ = some z) (hk : (Sum.elim (fun s : Nat × Nat × Nat × Nat × Int32 × Int32 × MS => WW X D cy b r μ' 8 0 0 29 [(0, .ref (b + s.1)), (1, .ref (b + s.2.1)), (3, .ref (b + s.2.2.1)), (4, .ref (b + s.2.2.2.1)), (5, .int s.2.2.2.2.1), (6, .int s.2.2.2.2.2.1)] [] s.2.2.2.2.2.2) (fun z : MS => r = none ∧ μ' = z)) z) : WW X D cy b r μ' 8 0 0 72 [(0, .ref (b + l0)), (1, .ref (b + l1)), (3, .ref (b + l3)), (4, .ref (b + l4)), (5, .int l5), (6, .int l6)] [.int s0] μ := by
  unfold f_X5_find_72 at hf
  refine r_istore hB (by decide +kernel : decode cX5_find 72 = .ok (.istore 7, 2)) (by decide) rfl ?_
  refine ww_lv (lv' := [(7, .int s0), (0, .ref (b + l0)), (1, .ref (b + l1)), (3, .ref (b + l3)), (4, .ref (b + l4)), (5, .int l5), (6, .int l6)]) rfl ?_
  refine r_iload hB 5 rfl (by decide +kernel : decode cX5_find 74 = .ok (.iload 5, 2)) ?_
  refine r_if_eq hB (tgt := 104) (by decide +kernel : decode cX5_find 76 = .ok (.ifCond .eq 28, 3)) (by decide) hf (fun _ hf => ?_) (fun _ hf => ?_)
  · exact WW.sub [1, 2, 3, 4, 6] rfl (t_X5_find_104 hB hf hk)
  · refine r_iload hB 0 rfl (by decide +kernel : decode cX5_find 79 = .ok (.iload 7, 2)) ?_
    refine r_if_eq hB (tgt := 104) (by decide +kernel : decode cX5_find 81 = .ok (.ifCond .eq 23, 3)) (by decide) hf (fun _ hf => ?_) (fun _ hf => ?_)
    · exact WW.sub [1, 2, 3, 4, 6] rfl (t_X5_find_104 hB hf hk)
    · refine r_aload_n hB 1 rfl (by decide +kernel : decode cX5_find 84 = .ok (.aload_n 0, 1)) rfl ?_
      refine r_aload hB 4 rfl (by decide +kernel : decode cX5_find 85 = .ok (.aload 4, 2)) ?_
      refine r_aload_n hB 2 rfl (by decide +kernel : decode cX5_find 87 = .ok (.aload_n 1, 1)) rfl ?_
      refine r_gR hB cf7 0 (by decide) (own := "PulseRemote$PressList") rfl (Or.inr ⟨_, k_211⟩) (by decide +kernel) (by decide +kernel : decode cX5_find 88 = .ok (.getfield 46, 3)) hf (fun x88 hf => ?_)
      refine r_cVi hB [.ref (b + l4), .ref (b + x88)] [] cf5 (own := "PulseRemote$PressList") rfl cmX5_continuesLatest imX5_continuesLatest (Or.inl k_1037) (by decide) rfl rfl rfl (Nat.le_of_ble_eq_true rfl) (by decide +kernel : decode cX5_find 91 = .ok (.invokevirtual 66, 3)) (fun z hz => m_X5_continuesLatest _ _ _ _ hz) rfl hf (fun z91 hf => ?_)
      refine r_if_eq hB (tgt := 104) (by decide +kernel : decode cX5_find 94 = .ok (.ifCond .eq 10, 3)) (by decide) hf (fun _ hf => ?_) (fun _ hf => ?_)
      · exact WW.sub [1, 2, 3, 4, 6] rfl (t_X5_find_104 hB hf hk)
      · refine r_aload_n hB 1 rfl (by decide +kernel : decode cX5_find 97 = .ok (.aload_n 0, 1)) rfl ?_
        refine r_cVv hB [] [] cf5 (own := "PulseRemote$PressList") rfl cmX5_countLatest imX5_countLatest (Or.inl k_1044) (by decide) rfl rfl rfl (Nat.le_of_ble_eq_true rfl) (by decide +kernel : decode cX5_find 98 = .ok (.invokevirtual 70, 3)) (fun z hz => m_X5_countLatest _ _ _ _ hz) rfl hf (fun z98 hf => ?_)
        refine r_goto hB (tgt := 137) (by decide +kernel : decode cX5_find 101 = .ok (.goto 36, 3)) (by decide) ?_
        exact WW.sub [1, 2, 3, 4, 5, 6] rfl (t_X5_find_137 hB hf hk)
set_option maxHeartbeats 4000000 in
set_option maxRecDepth 100000 in
theorem t_X5_find_29_b {X : BX} {D : va_G} {cy : Nat → ClassId} {b : Nat} {r : Option Value} {μ' : MS} (hB : BB X D cy b yX5_find cX5_find 8 none rmX5_find) {l0 : Nat} {l1 : Nat} {l3 : Nat} {l4 : Nat} {l5 : Int32} {l6 : Int32} {μ : MS} {z : ((Nat × Nat × Nat × Nat × Int32 × Int32 × MS) ⊕ MS)} (hf : f_X5_find_29_b l0 l1 l3 l4 l5 l6 μ = some z) (hk : (Sum.elim (fun s : Nat × Nat × Nat × Nat × Int32 × Int32 × MS => WW X D cy b r μ' 8 0 0 29 [(0, .ref (b + s.1)), (1, .ref (b + s.2.1)), (3, .ref (b + s.2.2.1)), (4, .ref (b + s.2.2.2.1)), (5, .int s.2.2.2.2.1), (6, .int s.2.2.2.2.2.1)] [] s.2.2.2.2.2.2) (fun z : MS => r = none ∧ μ' = z)) z) : WW X D cy b r μ' 8 0 0 29 [(0, .ref (b + l0)), (1, .ref (b + l1)), (3, .ref (b + l3)), (4, .ref (b + l4)), (5, .int l5), (6, .int l6)] [] μ := by
  unfold f_X5_find_29_b at hf
  refine r_iload hB 5 rfl (by decide +kernel : decode cX5_find 29 = .ok (.iload 6, 2)) ?_
  refine r_aload_n hB 2 rfl (by decide +kernel : decode cX5_find 31 = .ok (.aload_n 3, 1)) rfl ?_
  refine r_gI hB cf3 2 (by decide) (own := "PulseRemote$PressList") rfl (Or.inr ⟨_, k_275⟩) (by decide +kernel) (by decide +kernel : decode cX5_find 32 = .ok (.getfield 43, 3)) hf (fun x32 hf => ?_)
  refine r_icmp_ge hB (tgt := 143) (by decide +kernel : decode cX5_find 35 = .ok (.if_icmp .ge 108, 3)) (by decide) hf (fun _ hf => ?_) (fun _ hf => ?_)
  · obtain ⟨_, hx0, rfl⟩ := xr_inv hf
    exact WW.sub [] rfl (t_X5_find_143 hB hx0 hk)
  · refine r_aload hB 3 rfl (by decide +kernel : decode cX5_find 38 = .ok (.aload 4, 2)) ?_
    refine r_aload_n hB 1 rfl (by decide +kernel : decode cX5_find 40 = .ok (.aload_n 1, 1)) rfl ?_
    refine r_gR hB cf7 0 (by decide) (own := "PulseRemote$PressList") rfl (Or.inr ⟨_, k_211⟩) (by decide +kernel) (by decide +kernel : decode cX5_find 41 = .ok (.getfield 46, 3)) hf (fun x41 hf => ?_)
    refine r_aload_n hB 2 rfl (by decide +kernel : decode cX5_find 44 = .ok (.aload_n 3, 1)) rfl ?_
    refine r_iload hB 5 rfl (by decide +kernel : decode cX5_find 45 = .ok (.iload 6, 2)) ?_
    refine r_aload_n hB 1 rfl (by decide +kernel : decode cX5_find 47 = .ok (.aload_n 1, 1)) rfl ?_
    refine r_gI hB cf7 4 (by decide) (own := "PulseRemote$PressList") rfl (Or.inr ⟨_, k_221⟩) (by decide +kernel) (by decide +kernel : decode cX5_find 48 = .ok (.getfield 50, 3)) hf (fun x48 hf => ?_)
    refine r_cVv hB [.ref (b + x41), .ref (b + l3), .int l6, .int x48] [] cf2 (own := "PulseRemote$PressList") rfl cmX2_decode imX2_decode (Or.inl k_1032) (by decide) rfl rfl rfl (Nat.le_of_ble_eq_true rfl) (by decide +kernel : decode cX5_find 51 = .ok (.invokevirtual 53, 3)) (fun z hz => m_X2_decode _ _ _ _ hz) rfl hf (fun z51 hf => ?_)
    refine r_aload_n hB 2 rfl (by decide +kernel : decode cX5_find 54 = .ok (.aload_n 3, 1)) rfl ?_
    refine r_iload hB 5 rfl (by decide +kernel : decode cX5_find 55 = .ok (.iload 6, 2)) ?_
    refine r_cVi hB [.int l6] [] cf3 (own := "PulseRemote$PressList") rfl cmX3_spaceBefore imX3_spaceBefore (Or.inl k_1033) (by decide) rfl rfl rfl (Nat.le_of_ble_eq_true rfl) (by decide +kernel : decode cX5_find 57 = .ok (.invokevirtual 59, 3)) (fun z hz => m_X3_spaceBefore _ _ _ _ hz) rfl hf (fun z57 hf => ?_)
    refine r_aload_n hB 1 rfl (by decide +kernel : decode cX5_find 60 = .ok (.aload_n 1, 1)) rfl ?_
    refine r_gI hB cf7 3 (by decide) (own := "PulseRemote$PressList") rfl (Or.inr ⟨_, k_218⟩) (by decide +kernel) (by decide +kernel : decode cX5_find 61 = .ok (.getfield 63, 3)) hf (fun x61 hf => ?_)
    refine r_icmp_gt hB (tgt := 71) (by decide +kernel : decode cX5_find 64 = .ok (.if_icmp .gt 7, 3)) (by decide) hf (fun _ hf => ?_) (fun _ hf => ?_)
    · refine r_iconst hB (v := 0) (by decide +kernel : decode cX5_find 71 = .ok (.iconst 0, 1)) (by decide +kernel) ?_
      exact WW.sub [0, 1, 2, 3, 4, 5] rfl (t_X5_find_72 hB hf hk)
    · refine r_iconst hB (v := 1) (by decide +kernel : decode cX5_find 67 = .ok (.iconst 1, 1)) (by decide +kernel) ?_
      refine r_goto hB (tgt := 72) (by decide +kernel : decode cX5_find 68 = .ok (.goto 4, 3)) (by decide) ?_
      exact WW.sub [0, 1, 2, 3, 4, 5] rfl (t_X5_find_72 hB hf hk)
set_option maxHeartbeats 4000000 in
set_option maxRecDepth 100000 in
theorem t_X5_find_29 {X : BX} {D : va_G} {cy : Nat → ClassId} {b : Nat} {r : Option Value} {μ' : MS} (hB : BB X D cy b yX5_find cX5_find 8 none rmX5_find) {l0 : Nat} {l1 : Nat} {l3 : Nat} {l4 : Nat} {l5 : Int32} {l6 : Int32} {μ : MS} {z : MS} (hf : f_X5_find_29 l0 l1 l3 l4 l5 l6 μ = some z) (hk : (fun z : MS => r = none ∧ μ' = z) z) : WW X D cy b r μ' 8 0 0 29 [(0, .ref (b + l0)), (1, .ref (b + l1)), (3, .ref (b + l3)), (4, .ref (b + l4)), (5, .int l5), (6, .int l6)] [] μ :=
  lp_ind (P := fun s : Nat × Nat × Nat × Nat × Int32 × Int32 × MS => WW X D cy b r μ' 8 0 0 29 [(0, .ref (b + s.1)), (1, .ref (b + s.2.1)), (3, .ref (b + s.2.2.1)), (4, .ref (b + s.2.2.2.1)), (5, .int s.2.2.2.2.1), (6, .int s.2.2.2.2.2.1)] [] s.2.2.2.2.2.2) (Q := (fun z : MS => r = none ∧ μ' = z)) (fun s z hz hk => t_X5_find_29_b hB hz hk) (l0, l1, l3, l4, l5, l6, μ) z hf hk
set_option maxHeartbeats 4000000 in
set_option maxRecDepth 100000 in
theorem t_X5_find_0 {X : BX} {D : va_G} {cy : Nat → ClassId} {b : Nat} {r : Option Value} {μ' : MS} (hB : BB X D cy b yX5_find cX5_find 8 none rmX5_find) {l0 : Nat} {l1 : Nat} {l2 : Int32} {l3 : Nat} {l4 : Nat} {μ : MS} {z : MS} (hf : f_X5_find l0 l1 l2 l3 l4 μ = some z) (hk : (fun z : MS => r = none ∧ μ' = z) z) : WW X D cy b r μ' 8 0 0 0 [(0, .ref (b + l0)), (1, .ref (b + l1)), (2, .int l2), (3, .ref (b + l3)), (4, .ref (b + l4))] [] μ := by
  unfold f_X5_find at hf
  refine r_aload_n hB 3 rfl (by decide +kernel : decode cX5_find 0 = .ok (.aload_n 3, 1)) rfl ?_
  refine r_aload_n hB 1 rfl (by decide +kernel : decode cX5_find 1 = .ok (.aload_n 1, 1)) rfl ?_
  refine r_iload_n hB 2 rfl (by decide +kernel : decode cX5_find 2 = .ok (.iload_n 2, 1)) rfl ?_
  refine r_cVr hB [.int l2] [.ref (b + l3)] cf7 (own := "PulseRemote$PressList") rfl cmX7_trainAt imX7_trainAt (Or.inl k_1030) (by decide) rfl rfl rfl (Nat.le_of_ble_eq_true rfl) (by decide +kernel : decode cX5_find 3 = .ok (.invokevirtual 21, 3)) (fun z hz => m_X7_trainAt _ _ _ _ hz) rfl hf (fun z3 hf => ?_)
  refine r_aload_n hB 1 rfl (by decide +kernel : decode cX5_find 6 = .ok (.aload_n 1, 1)) rfl ?_
  refine r_gI hB cf7 2 (by decide) (own := "PulseRemote$PressList") rfl (Or.inr ⟨_, k_215⟩) (by decide +kernel) (by decide +kernel : decode cX5_find 7 = .ok (.getfield 27, 3)) hf (fun x7 hf => ?_)
  refine r_cVv hB [.ref (b + z3.1), .int x7] [] cf3 (own := "PulseRemote$PressList") rfl cmX3_split imX3_split (Or.inl k_1031) (by decide) rfl rfl rfl (Nat.le_of_ble_eq_true rfl) (by decide +kernel : decode cX5_find 10 = .ok (.invokevirtual 31, 3)) (fun z hz => m_X3_split _ _ _ _ hz) rfl hf (fun z10 hf => ?_)
  refine r_aload_n hB 0 rfl (by decide +kernel : decode cX5_find 13 = .ok (.aload_n 0, 1)) rfl ?_
  refine r_iconst hB (v := 0) (by decide +kernel : decode cX5_find 14 = .ok (.iconst 0, 1)) (by decide +kernel) ?_
  refine r_pI hB cf5 3 (by decide) (own := "PulseRemote$PressList") rfl (Or.inl k_330) (Or.inl rfl) rfl (by decide +kernel : decode cX5_find 15 = .ok (.putfield 37, 3)) hf (fun m15 hf => ?_)
  refine r_aload_n hB 0 rfl (by decide +kernel : decode cX5_find 18 = .ok (.aload_n 0, 1)) rfl ?_
  refine r_iconst hB (v := 0) (by decide +kernel : decode cX5_find 19 = .ok (.iconst 0, 1)) (by decide +kernel) ?_
  refine r_pI hB cf5 4 (by decide) (own := "PulseRemote$PressList") rfl (Or.inl k_332) (Or.inl rfl) rfl (by decide +kernel : decode cX5_find 20 = .ok (.putfield 40, 3)) hf (fun m20 hf => ?_)
  refine r_iconst hB (v := 0) (by decide +kernel : decode cX5_find 23 = .ok (.iconst 0, 1)) (by decide +kernel) ?_
  refine r_istore hB (by decide +kernel : decode cX5_find 24 = .ok (.istore 5, 2)) (by decide) rfl ?_
  refine ww_lv (lv' := [(5, .int 0), (0, .ref (b + l0)), (1, .ref (b + l1)), (2, .int l2), (3, .ref (b + l3)), (4, .ref (b + l4))]) rfl ?_
  refine r_iconst hB (v := 0) (by decide +kernel : decode cX5_find 26 = .ok (.iconst 0, 1)) (by decide +kernel) ?_
  refine r_istore hB (by decide +kernel : decode cX5_find 27 = .ok (.istore 6, 2)) (by decide) rfl ?_
  refine ww_lv (lv' := [(6, .int 0), (5, .int 0), (0, .ref (b + l0)), (1, .ref (b + l1)), (2, .int l2), (3, .ref (b + l3)), (4, .ref (b + l4))]) rfl ?_
  exact WW.sub [2, 3, 5, 6, 1, 0] rfl (t_X5_find_29 hB hf hk)
theorem m_X5_find (l : Launch) (D : va_G) (cy : Nat → ClassId) (b : Nat) {l0 : Nat} {l1 : Nat} {l2 : Int32} {l3 : Nat} {l4 : Nat} {μ : MS} {z : MS} (hf : f_X5_find l0 l1 l2 l3 l4 μ = some z) : Met l yX5_find (.code yX5_find cX5_find 8 none :: GW) rmX5_find (Pw D cy b [.ref (b + l0), .ref (b + l1), .int l2, .ref (b + l3), .ref (b + l4)] μ) (Qw D cy b (none) (z)) rmX5_find.cells rmX5_find.slots (fun q => b ≤ q) :=
  met_of (by decide) (Nat.le_of_ble_eq_true rfl) (fun X hB _ => (t_X5_find_0 hB hf ⟨rfl, rfl⟩))
-- PulseRemote.pressCount(I)I
set_option maxHeartbeats 4000000 in
set_option maxRecDepth 100000 in
theorem t_X11_pressCount_0 {X : BX} {D : va_G} {cy : Nat → ClassId} {b : Nat} {r : Option Value} {μ' : MS} (hB : BB X D cy b yX11_pressCount cX11_pressCount 2 (some .int) rmX11_pressCount) {l0 : Nat} {l1 : Int32} {μ : MS} {z : (Int32 × MS)} (hf : f_X11_pressCount l0 l1 μ = some z) (hk : (fun z : Int32 × MS => r = some (.int z.1) ∧ μ' = z.2) z) : WW X D cy b r μ' 2 0 0 0 [(0, .ref (b + l0)), (1, .int l1)] [] μ := by
  unfold f_X11_pressCount at hf
  refine r_iload_n hB 1 rfl (by decide +kernel : decode cX11_pressCount 0 = .ok (.iload_n 1, 1)) rfl ?_
  refine r_cSi hB [.int l1] [] (own := "PulseRemote") rfl cmX11_isSlot smX11_isSlot (Or.inl ⟨rfl, k_589⟩) (by decide) rfl rfl rfl (Nat.le_of_ble_eq_true rfl) (by decide +kernel : decode cX11_pressCount 1 = .ok (.invokestatic 156, 3)) (fun z hz => m_X11_isSlot _ _ _ _ hz) rfl hf (fun z1 hf => ?_)
  refine r_if_ne hB (tgt := 9) (by decide +kernel : decode cX11_pressCount 4 = .ok (.ifCond .ne 5, 3)) (by decide) hf (fun _ hf => ?_) (fun _ hf => ?_)
  · refine r_iconst hB (v := (-1)) (by decide +kernel : decode cX11_pressCount 7 = .ok (.iconst (-1), 1)) (by decide +kernel) ?_
    obtain rfl := Option.some.inj hf
    obtain ⟨rfl, rfl⟩ := hk
    exact r_iret hB (by decide +kernel : decode cX11_pressCount 8 = .ok (.ireturn, 1))
  · refine r_aload_n hB 0 rfl (by decide +kernel : decode cX11_pressCount 9 = .ok (.aload_n 0, 1)) rfl ?_
    refine r_gR hB cf11 9 (by decide) (own := "PulseRemote") rfl (Or.inl k_474) (by decide +kernel) (by decide +kernel : decode cX11_pressCount 10 = .ok (.getfield 62, 3)) hf (fun x10 hf => ?_)
    refine r_aload_n hB 0 rfl (by decide +kernel : decode cX11_pressCount 13 = .ok (.aload_n 0, 1)) rfl ?_
    refine r_gR hB cf11 0 (by decide) (own := "PulseRemote") rfl (Or.inl k_465) (by decide +kernel) (by decide +kernel : decode cX11_pressCount 14 = .ok (.getfield 12, 3)) hf (fun x14 hf => ?_)
    refine r_iload_n hB 1 rfl (by decide +kernel : decode cX11_pressCount 17 = .ok (.iload_n 1, 1)) rfl ?_
    refine r_aload_n hB 0 rfl (by decide +kernel : decode cX11_pressCount 18 = .ok (.aload_n 0, 1)) rfl ?_
    refine r_gR hB cf11 7 (by decide) (own := "PulseRemote") rfl (Or.inl k_472) (by decide +kernel) (by decide +kernel : decode cX11_pressCount 19 = .ok (.getfield 48, 3)) hf (fun x19 hf => ?_)
    refine r_aload_n hB 0 rfl (by decide +kernel : decode cX11_pressCount 22 = .ok (.aload_n 0, 1)) rfl ?_
    refine r_gR hB cf11 8 (by decide) (own := "PulseRemote") rfl (Or.inl k_473) (by decide +kernel) (by decide +kernel : decode cX11_pressCount 23 = .ok (.getfield 55, 3)) hf (fun x23 hf => ?_)
    refine r_cVv hB [.ref (b + x14), .int l1, .ref (b + x19), .ref (b + x23)] [] cf5 (own := "PulseRemote") rfl cmX5_find imX5_find (Or.inl k_1026) (by decide) rfl rfl rfl (Nat.le_of_ble_eq_true rfl) (by decide +kernel : decode cX11_pressCount 26 = .ok (.invokevirtual 315, 3)) (fun z hz => m_X5_find _ _ _ _ hz) rfl hf (fun z26 hf => ?_)
    refine r_aload_n hB 0 rfl (by decide +kernel : decode cX11_pressCount 29 = .ok (.aload_n 0, 1)) rfl ?_
    refine r_gR hB cf11 9 (by decide) (own := "PulseRemote") rfl (Or.inl k_474) (by decide +kernel) (by decide +kernel : decode cX11_pressCount 30 = .ok (.getfield 62, 3)) hf (fun x30 hf => ?_)
    refine r_gI hB cf5 3 (by decide) (own := "PulseRemote") rfl (Or.inr ⟨_, k_331⟩) (by decide +kernel) (by decide +kernel : decode cX11_pressCount 33 = .ok (.getfield 319, 3)) hf (fun x33 hf => ?_)
    obtain rfl := Option.some.inj hf
    obtain ⟨rfl, rfl⟩ := hk
    exact r_iret hB (by decide +kernel : decode cX11_pressCount 36 = .ok (.ireturn, 1))
theorem m_X11_pressCount (l : Launch) (D : va_G) (cy : Nat → ClassId) (b : Nat) {l0 : Nat} {l1 : Int32} {μ : MS} {z : Int32 × MS} (hf : f_X11_pressCount l0 l1 μ = some z) : Met l yX11_pressCount (.code yX11_pressCount cX11_pressCount 2 (some .int) :: GW) rmX11_pressCount (Pw D cy b [.ref (b + l0), .int l1] μ) (Qw D cy b (some (.int z.1)) (z.2)) rmX11_pressCount.cells rmX11_pressCount.slots (fun q => b ≤ q) :=
  met_of (by decide) (Nat.le_of_ble_eq_true rfl) (fun X hB _ => (t_X11_pressCount_0 hB hf ⟨rfl, rfl⟩))
-- PulseRemote$Table.findButtonOf(II)I
set_option maxHeartbeats 4000000 in
set_option maxRecDepth 100000 in
theorem t_X8_findButtonOf_0 {X : BX} {D : va_G} {cy : Nat → ClassId} {b : Nat} {r : Option Value} {μ' : MS} (hB : BB X D cy b yX8_findButtonOf cX8_findButtonOf 3 (some .int) rmX8_findButtonOf) {l0 : Nat} {l1 : Int32} {l2 : Int32} {μ : MS} {z : (Int32 × MS)} (hf : f_X8_findButtonOf l0 l1 l2 μ = some z) (hk : (fun z : Int32 × MS => r = some (.int z.1) ∧ μ' = z.2) z) : WW X D cy b r μ' 3 0 0 0 [(0, .ref (b + l0)), (1, .int l1), (2, .int l2)] [] μ := by
  unfold f_X8_findButtonOf at hf
  refine r_aload_n hB 0 rfl (by decide +kernel : decode cX8_findButtonOf 0 = .ok (.aload_n 0, 1)) rfl ?_
  refine r_iload_n hB 1 rfl (by decide +kernel : decode cX8_findButtonOf 1 = .ok (.iload_n 1, 1)) rfl ?_
  refine r_aload_n hB 0 rfl (by decide +kernel : decode cX8_findButtonOf 2 = .ok (.aload_n 0, 1)) rfl ?_
  refine r_iload_n hB 1 rfl (by decide +kernel : decode cX8_findButtonOf 3 = .ok (.iload_n 1, 1)) rfl ?_
  refine r_cVr hB [.int l1] [.int l1, .ref (b + l0)] cf8 (own := "PulseRemote$Table") rfl cmX8_protocolAt imX8_protocolAt (Or.inl k_555) (by decide) rfl rfl rfl (Nat.le_of_ble_eq_true rfl) (by decide +kernel : decode cX8_findButtonOf 4 = .ok (.invokevirtual 42, 3)) (fun z hz => m_X8_protocolAt _ _ _ _ hz) rfl hf (fun z4 hf => ?_)
  refine r_iload_n hB 2 rfl (by decide +kernel : decode cX8_findButtonOf 7 = .ok (.iload_n 2, 1)) rfl ?_
  refine r_cVi hB [.int l2] [.int l1, .ref (b + l0)] cf6 (own := "PulseRemote$Table") rfl cmX6_identityOf imX6_identityOf (Or.inl k_1060) (by decide) rfl rfl rfl (Nat.le_of_ble_eq_true rfl) (by decide +kernel : decode cX8_findButtonOf 8 = .ok (.invokevirtual 65, 3)) (fun z hz => m_X6_identityOf _ _ _ _ hz) rfl hf (fun z8 hf => ?_)
  refine r_cVi hB [.int l1, .int z8.1] [] cf8 (own := "PulseRemote$Table") rfl cmX8_findButton imX8_findButton (Or.inl k_1061) (by decide) rfl rfl rfl (Nat.le_of_ble_eq_true rfl) (by decide +kernel : decode cX8_findButtonOf 11 = .ok (.invokevirtual 68, 3)) (fun z hz => m_X8_findButton _ _ _ _ hz) rfl hf (fun z11 hf => ?_)
  obtain rfl := Option.some.inj hf
  obtain ⟨rfl, rfl⟩ := hk
  exact r_iret hB (by decide +kernel : decode cX8_findButtonOf 14 = .ok (.ireturn, 1))
theorem m_X8_findButtonOf (l : Launch) (D : va_G) (cy : Nat → ClassId) (b : Nat) {l0 : Nat} {l1 : Int32} {l2 : Int32} {μ : MS} {z : Int32 × MS} (hf : f_X8_findButtonOf l0 l1 l2 μ = some z) : Met l yX8_findButtonOf (.code yX8_findButtonOf cX8_findButtonOf 3 (some .int) :: GW) rmX8_findButtonOf (Pw D cy b [.ref (b + l0), .int l1, .int l2] μ) (Qw D cy b (some (.int z.1)) (z.2)) rmX8_findButtonOf.cells rmX8_findButtonOf.slots (fun q => b ≤ q) :=
  met_of (by decide) (Nat.le_of_ble_eq_true rfl) (fun X hB _ => (t_X8_findButtonOf_0 hB hf ⟨rfl, rfl⟩))
-- PulseRemote.press(III)I
set_option maxHeartbeats 4000000 in
set_option maxRecDepth 100000 in
theorem t_X11_press_0 {X : BX} {D : va_G} {cy : Nat → ClassId} {b : Nat} {r : Option Value} {μ' : MS} (hB : BB X D cy b yX11_press cX11_press 4 (some .int) rmX11_press) {l0 : Nat} {l1 : Int32} {l2 : Int32} {l3 : Int32} {μ : MS} {z : (Int32 × MS)} (hf : f_X11_press l0 l1 l2 l3 μ = some z) (hk : (fun z : Int32 × MS => r = some (.int z.1) ∧ μ' = z.2) z) : WW X D cy b r μ' 4 0 0 0 [(0, .ref (b + l0)), (1, .int l1), (2, .int l2), (3, .int l3)] [] μ := by
  unfold f_X11_press at hf
  refine r_iload_n hB 1 rfl (by decide +kernel : decode cX11_press 0 = .ok (.iload_n 1, 1)) rfl ?_
  refine r_cSi hB [.int l1] [] (own := "PulseRemote") rfl cmX11_isSlot smX11_isSlot (Or.inl ⟨rfl, k_589⟩) (by decide) rfl rfl rfl (Nat.le_of_ble_eq_true rfl) (by decide +kernel : decode cX11_press 1 = .ok (.invokestatic 156, 3)) (fun z hz => m_X11_isSlot _ _ _ _ hz) rfl hf (fun z1 hf => ?_)
  refine r_if_eq hB (tgt := 20) (by decide +kernel : decode cX11_press 4 = .ok (.ifCond .eq 16, 3)) (by decide) hf (fun _ hf => ?_) (fun _ hf => ?_)
  · refine r_iconst hB (v := (-1)) (by decide +kernel : decode cX11_press 20 = .ok (.iconst (-1), 1)) (by decide +kernel) ?_
    obtain rfl := Option.some.inj hf
    obtain ⟨rfl, rfl⟩ := hk
    exact r_iret hB (by decide +kernel : decode cX11_press 21 = .ok (.ireturn, 1))
  · refine r_iload_n hB 2 rfl (by decide +kernel : decode cX11_press 7 = .ok (.iload_n 2, 1)) rfl ?_
    refine r_if_lt hB (tgt := 20) (by decide +kernel : decode cX11_press 8 = .ok (.ifCond .lt 12, 3)) (by decide) hf (fun _ hf => ?_) (fun _ hf => ?_)
    · refine r_iconst hB (v := (-1)) (by decide +kernel : decode cX11_press 20 = .ok (.iconst (-1), 1)) (by decide +kernel) ?_
      obtain rfl := Option.some.inj hf
      obtain ⟨rfl, rfl⟩ := hk
      exact r_iret hB (by decide +kernel : decode cX11_press 21 = .ok (.ireturn, 1))
    · refine r_iload_n hB 3 rfl (by decide +kernel : decode cX11_press 11 = .ok (.iload_n 3, 1)) rfl ?_
      refine r_iconst hB (v := 0) (by decide +kernel : decode cX11_press 12 = .ok (.iconst 0, 1)) (by decide +kernel) ?_
      refine r_iconst hB (v := 3) (by decide +kernel : decode cX11_press 13 = .ok (.iconst 3, 1)) (by decide +kernel) ?_
      refine r_cSi hB [.int l3, .int 0, .int 3] [] (own := "PulseRemote") rfl cmX11_inRange smX11_inRange (Or.inl ⟨rfl, k_506⟩) (by decide) rfl rfl rfl (Nat.le_of_ble_eq_true rfl) (by decide +kernel : decode cX11_press 14 = .ok (.invokestatic 80, 3)) (fun z hz => m_X11_inRange _ _ _ _ hz) rfl hf (fun z14 hf => ?_)
      refine r_if_ne hB (tgt := 22) (by decide +kernel : decode cX11_press 17 = .ok (.ifCond .ne 5, 3)) (by decide) hf (fun _ hf => ?_) (fun _ hf => ?_)
      · refine r_iconst hB (v := (-1)) (by decide +kernel : decode cX11_press 20 = .ok (.iconst (-1), 1)) (by decide +kernel) ?_
        obtain rfl := Option.some.inj hf
        obtain ⟨rfl, rfl⟩ := hk
        exact r_iret hB (by decide +kernel : decode cX11_press 21 = .ok (.ireturn, 1))
      · refine r_aload_n hB 0 rfl (by decide +kernel : decode cX11_press 22 = .ok (.aload_n 0, 1)) rfl ?_
        refine r_gR hB cf11 9 (by decide) (own := "PulseRemote") rfl (Or.inl k_474) (by decide +kernel) (by decide +kernel : decode cX11_press 23 = .ok (.getfield 62, 3)) hf (fun x23 hf => ?_)
        refine r_aload_n hB 0 rfl (by decide +kernel : decode cX11_press 26 = .ok (.aload_n 0, 1)) rfl ?_
        refine r_gR hB cf11 0 (by decide) (own := "PulseRemote") rfl (Or.inl k_465) (by decide +kernel) (by decide +kernel : decode cX11_press 27 = .ok (.getfield 12, 3)) hf (fun x27 hf => ?_)
        refine r_iload_n hB 1 rfl (by decide +kernel : decode cX11_press 30 = .ok (.iload_n 1, 1)) rfl ?_
        refine r_aload_n hB 0 rfl (by decide +kernel : decode cX11_press 31 = .ok (.aload_n 0, 1)) rfl ?_
        refine r_gR hB cf11 7 (by decide) (own := "PulseRemote") rfl (Or.inl k_472) (by decide +kernel) (by decide +kernel : decode cX11_press 32 = .ok (.getfield 48, 3)) hf (fun x32 hf => ?_)
        refine r_aload_n hB 0 rfl (by decide +kernel : decode cX11_press 35 = .ok (.aload_n 0, 1)) rfl ?_
        refine r_gR hB cf11 8 (by decide) (own := "PulseRemote") rfl (Or.inl k_473) (by decide +kernel) (by decide +kernel : decode cX11_press 36 = .ok (.getfield 55, 3)) hf (fun x36 hf => ?_)
        refine r_cVv hB [.ref (b + x27), .int l1, .ref (b + x32), .ref (b + x36)] [] cf5 (own := "PulseRemote") rfl cmX5_find imX5_find (Or.inl k_1026) (by decide) rfl rfl rfl (Nat.le_of_ble_eq_true rfl) (by decide +kernel : decode cX11_press 39 = .ok (.invokevirtual 315, 3)) (fun z hz => m_X5_find _ _ _ _ hz) rfl hf (fun z39 hf => ?_)
        refine r_iload_n hB 2 rfl (by decide +kernel : decode cX11_press 42 = .ok (.iload_n 2, 1)) rfl ?_
        refine r_aload_n hB 0 rfl (by decide +kernel : decode cX11_press 43 = .ok (.aload_n 0, 1)) rfl ?_
        refine r_gR hB cf11 9 (by decide) (own := "PulseRemote") rfl (Or.inl k_474) (by decide +kernel) (by decide +kernel : decode cX11_press 44 = .ok (.getfield 62, 3)) hf (fun x44 hf => ?_)
        refine r_gI hB cf5 3 (by decide) (own := "PulseRemote") rfl (Or.inr ⟨_, k_331⟩) (by decide +kernel) (by decide +kernel : decode cX11_press 47 = .ok (.getfield 319, 3)) hf (fun x47 hf => ?_)
        refine r_icmp_lt hB (tgt := 56) (by decide +kernel : decode cX11_press 50 = .ok (.if_icmp .lt 6, 3)) (by decide) hf (fun _ hf => ?_) (fun _ hf => ?_)
        · refine r_iload_n hB 3 rfl (by decide +kernel : decode cX11_press 56 = .ok (.iload_n 3, 1)) rfl ?_
          rcases if_inv hf with ⟨hc, hf⟩ | ⟨h_0, hf⟩
          · rw [hc]
            refine r_tabIn hB (off := 27) (tgt := 84) (by decide +kernel : decode cX11_press 57 = .ok (.tableswitch 57 0 2 #[27, 37, 47], 27)) (by decide) (by decide) (by decide +kernel) (by decide) ?_
            refine r_aload_n hB 0 rfl (by decide +kernel : decode cX11_press 84 = .ok (.aload_n 0, 1)) rfl ?_
            refine r_gR hB cf11 9 (by decide) (own := "PulseRemote") rfl (Or.inl k_474) (by decide +kernel) (by decide +kernel : decode cX11_press 85 = .ok (.getfield 62, 3)) hf (fun x85 hf => ?_)
            refine r_gR hB cf5 0 (by decide) (own := "PulseRemote") rfl (Or.inr ⟨_, k_325⟩) (by decide +kernel) (by decide +kernel : decode cX11_press 88 = .ok (.getfield 322, 3)) hf (fun x88 hf => ?_)
            refine r_iload_n hB 2 rfl (by decide +kernel : decode cX11_press 91 = .ok (.iload_n 2, 1)) rfl ?_
            refine r_iald hB (by decide +kernel : decode cX11_press 92 = .ok (.iaload, 1)) hf (fun x92 hf => ?_)
            obtain rfl := Option.some.inj hf
            obtain ⟨rfl, rfl⟩ := hk
            exact r_iret hB (by decide +kernel : decode cX11_press 93 = .ok (.ireturn, 1))
          rcases if_inv hf with ⟨hc, hf⟩ | ⟨h_1, hf⟩
          · rw [hc]
            refine r_tabIn hB (off := 37) (tgt := 94) (by decide +kernel : decode cX11_press 57 = .ok (.tableswitch 57 0 2 #[27, 37, 47], 27)) (by decide) (by decide) (by decide +kernel) (by decide) ?_
            refine r_aload_n hB 0 rfl (by decide +kernel : decode cX11_press 94 = .ok (.aload_n 0, 1)) rfl ?_
            refine r_gR hB cf11 9 (by decide) (own := "PulseRemote") rfl (Or.inl k_474) (by decide +kernel) (by decide +kernel : decode cX11_press 95 = .ok (.getfield 62, 3)) hf (fun x95 hf => ?_)
            refine r_gR hB cf5 1 (by decide) (own := "PulseRemote") rfl (Or.inr ⟨_, k_327⟩) (by decide +kernel) (by decide +kernel : decode cX11_press 98 = .ok (.getfield 326, 3)) hf (fun x98 hf => ?_)
            refine r_iload_n hB 2 rfl (by decide +kernel : decode cX11_press 101 = .ok (.iload_n 2, 1)) rfl ?_
            refine r_iald hB (by decide +kernel : decode cX11_press 102 = .ok (.iaload, 1)) hf (fun x102 hf => ?_)
            obtain rfl := Option.some.inj hf
            obtain ⟨rfl, rfl⟩ := hk
            exact r_iret hB (by decide +kernel : decode cX11_press 103 = .ok (.ireturn, 1))
          rcases if_inv hf with ⟨hc, hf⟩ | ⟨h_2, hf⟩
          · rw [hc]
            refine r_tabIn hB (off := 47) (tgt := 104) (by decide +kernel : decode cX11_press 57 = .ok (.tableswitch 57 0 2 #[27, 37, 47], 27)) (by decide) (by decide) (by decide +kernel) (by decide) ?_
            refine r_aload_n hB 0 rfl (by decide +kernel : decode cX11_press 104 = .ok (.aload_n 0, 1)) rfl ?_
            refine r_gR hB cf11 9 (by decide) (own := "PulseRemote") rfl (Or.inl k_474) (by decide +kernel) (by decide +kernel : decode cX11_press 105 = .ok (.getfield 62, 3)) hf (fun x105 hf => ?_)
            refine r_gR hB cf5 2 (by decide) (own := "PulseRemote") rfl (Or.inr ⟨_, k_329⟩) (by decide +kernel) (by decide +kernel : decode cX11_press 108 = .ok (.getfield 329, 3)) hf (fun x108 hf => ?_)
            refine r_iload_n hB 2 rfl (by decide +kernel : decode cX11_press 111 = .ok (.iload_n 2, 1)) rfl ?_
            refine r_iald hB (by decide +kernel : decode cX11_press 112 = .ok (.iaload, 1)) hf (fun x112 hf => ?_)
            obtain rfl := Option.some.inj hf
            obtain ⟨rfl, rfl⟩ := hk
            exact r_iret hB (by decide +kernel : decode cX11_press 113 = .ok (.ireturn, 1))
          refine r_tabOut hB (tgt := 114) (by decide +kernel : decode cX11_press 57 = .ok (.tableswitch 57 0 2 #[27, 37, 47], 27)) (by
            have g_0 := lv_neT (a := 0) h_0 (by decide)
            have g_1 := lv_neT (a := 1) h_1 (by decide)
            have g_2 := lv_neT (a := 2) h_2 (by decide)
            omega) (by decide) ?_
          refine r_aload_n hB 0 rfl (by decide +kernel : decode cX11_press 114 = .ok (.aload_n 0, 1)) rfl ?_
          refine r_gR hB cf11 0 (by decide) (own := "PulseRemote") rfl (Or.inl k_465) (by decide +kernel) (by decide +kernel : decode cX11_press 115 = .ok (.getfield 12, 3)) hf (fun x115 hf => ?_)
          refine r_gR hB cf7 0 (by decide) (own := "PulseRemote") rfl (Or.inr ⟨_, k_212⟩) (by decide +kernel) (by decide +kernel : decode cX11_press 118 = .ok (.getfield 84, 3)) hf (fun x118 hf => ?_)
          refine r_aload_n hB 0 rfl (by decide +kernel : decode cX11_press 121 = .ok (.aload_n 0, 1)) rfl ?_
          refine r_gR hB cf11 9 (by decide) (own := "PulseRemote") rfl (Or.inl k_474) (by decide +kernel) (by decide +kernel : decode cX11_press 122 = .ok (.getfield 62, 3)) hf (fun x122 hf => ?_)
          refine r_gR hB cf5 0 (by decide) (own := "PulseRemote") rfl (Or.inr ⟨_, k_325⟩) (by decide +kernel) (by decide +kernel : decode cX11_press 125 = .ok (.getfield 322, 3)) hf (fun x125 hf => ?_)
          refine r_iload_n hB 2 rfl (by decide +kernel : decode cX11_press 128 = .ok (.iload_n 2, 1)) rfl ?_
          refine r_iald hB (by decide +kernel : decode cX11_press 129 = .ok (.iaload, 1)) hf (fun x129 hf => ?_)
          refine r_aload_n hB 0 rfl (by decide +kernel : decode cX11_press 130 = .ok (.aload_n 0, 1)) rfl ?_
          refine r_gR hB cf11 9 (by decide) (own := "PulseRemote") rfl (Or.inl k_474) (by decide +kernel) (by decide +kernel : decode cX11_press 131 = .ok (.getfield 62, 3)) hf (fun x131 hf => ?_)
          refine r_gR hB cf5 1 (by decide) (own := "PulseRemote") rfl (Or.inr ⟨_, k_327⟩) (by decide +kernel) (by decide +kernel : decode cX11_press 134 = .ok (.getfield 326, 3)) hf (fun x134 hf => ?_)
          refine r_iload_n hB 2 rfl (by decide +kernel : decode cX11_press 137 = .ok (.iload_n 2, 1)) rfl ?_
          refine r_iald hB (by decide +kernel : decode cX11_press 138 = .ok (.iaload, 1)) hf (fun x138 hf => ?_)
          refine r_cVi hB [.int x129, .int x138] [] cf8 (own := "PulseRemote") rfl cmX8_findButtonOf imX8_findButtonOf (Or.inl k_1056) (by decide) rfl rfl rfl (Nat.le_of_ble_eq_true rfl) (by decide +kernel : decode cX11_press 139 = .ok (.invokevirtual 332, 3)) (fun z hz => m_X8_findButtonOf _ _ _ _ hz) rfl hf (fun z139 hf => ?_)
          obtain rfl := Option.some.inj hf
          obtain ⟨rfl, rfl⟩ := hk
          exact r_iret hB (by decide +kernel : decode cX11_press 142 = .ok (.ireturn, 1))
        · refine r_bipush hB (v := (-9)) (by decide +kernel : decode cX11_press 53 = .ok (.bipush (-9), 2)) (by decide +kernel) ?_
          obtain rfl := Option.some.inj hf
          obtain ⟨rfl, rfl⟩ := hk
          exact r_iret hB (by decide +kernel : decode cX11_press 55 = .ok (.ireturn, 1))
theorem m_X11_press (l : Launch) (D : va_G) (cy : Nat → ClassId) (b : Nat) {l0 : Nat} {l1 : Int32} {l2 : Int32} {l3 : Int32} {μ : MS} {z : Int32 × MS} (hf : f_X11_press l0 l1 l2 l3 μ = some z) : Met l yX11_press (.code yX11_press cX11_press 4 (some .int) :: GW) rmX11_press (Pw D cy b [.ref (b + l0), .int l1, .int l2, .int l3] μ) (Qw D cy b (some (.int z.1)) (z.2)) rmX11_press.cells rmX11_press.slots (fun q => b ≤ q) :=
  met_of (by decide) (Nat.le_of_ble_eq_true rfl) (fun X hB _ => (t_X11_press_0 hB hf ⟨rfl, rfl⟩))
-- PulseRemote.strayCount(I)I
set_option maxHeartbeats 4000000 in
set_option maxRecDepth 100000 in
theorem t_X11_strayCount_0 {X : BX} {D : va_G} {cy : Nat → ClassId} {b : Nat} {r : Option Value} {μ' : MS} (hB : BB X D cy b yX11_strayCount cX11_strayCount 2 (some .int) rmX11_strayCount) {l0 : Nat} {l1 : Int32} {μ : MS} {z : (Int32 × MS)} (hf : f_X11_strayCount l0 l1 μ = some z) (hk : (fun z : Int32 × MS => r = some (.int z.1) ∧ μ' = z.2) z) : WW X D cy b r μ' 2 0 0 0 [(0, .ref (b + l0)), (1, .int l1)] [] μ := by
  unfold f_X11_strayCount at hf
  refine r_iload_n hB 1 rfl (by decide +kernel : decode cX11_strayCount 0 = .ok (.iload_n 1, 1)) rfl ?_
  refine r_cSi hB [.int l1] [] (own := "PulseRemote") rfl cmX11_isSlot smX11_isSlot (Or.inl ⟨rfl, k_589⟩) (by decide) rfl rfl rfl (Nat.le_of_ble_eq_true rfl) (by decide +kernel : decode cX11_strayCount 1 = .ok (.invokestatic 156, 3)) (fun z hz => m_X11_isSlot _ _ _ _ hz) rfl hf (fun z1 hf => ?_)
  refine r_if_ne hB (tgt := 9) (by decide +kernel : decode cX11_strayCount 4 = .ok (.ifCond .ne 5, 3)) (by decide) hf (fun _ hf => ?_) (fun _ hf => ?_)
  · refine r_iconst hB (v := (-1)) (by decide +kernel : decode cX11_strayCount 7 = .ok (.iconst (-1), 1)) (by decide +kernel) ?_
    obtain rfl := Option.some.inj hf
    obtain ⟨rfl, rfl⟩ := hk
    exact r_iret hB (by decide +kernel : decode cX11_strayCount 8 = .ok (.ireturn, 1))
  · refine r_aload_n hB 0 rfl (by decide +kernel : decode cX11_strayCount 9 = .ok (.aload_n 0, 1)) rfl ?_
    refine r_gR hB cf11 9 (by decide) (own := "PulseRemote") rfl (Or.inl k_474) (by decide +kernel) (by decide +kernel : decode cX11_strayCount 10 = .ok (.getfield 62, 3)) hf (fun x10 hf => ?_)
    refine r_aload_n hB 0 rfl (by decide +kernel : decode cX11_strayCount 13 = .ok (.aload_n 0, 1)) rfl ?_
    refine r_gR hB cf11 0 (by decide) (own := "PulseRemote") rfl (Or.inl k_465) (by decide +kernel) (by decide +kernel : decode cX11_strayCount 14 = .ok (.getfield 12, 3)) hf (fun x14 hf => ?_)
    refine r_iload_n hB 1 rfl (by decide +kernel : decode cX11_strayCount 17 = .ok (.iload_n 1, 1)) rfl ?_
    refine r_aload_n hB 0 rfl (by decide +kernel : decode cX11_strayCount 18 = .ok (.aload_n 0, 1)) rfl ?_
    refine r_gR hB cf11 7 (by decide) (own := "PulseRemote") rfl (Or.inl k_472) (by decide +kernel) (by decide +kernel : decode cX11_strayCount 19 = .ok (.getfield 48, 3)) hf (fun x19 hf => ?_)
    refine r_aload_n hB 0 rfl (by decide +kernel : decode cX11_strayCount 22 = .ok (.aload_n 0, 1)) rfl ?_
    refine r_gR hB cf11 8 (by decide) (own := "PulseRemote") rfl (Or.inl k_473) (by decide +kernel) (by decide +kernel : decode cX11_strayCount 23 = .ok (.getfield 55, 3)) hf (fun x23 hf => ?_)
    refine r_cVv hB [.ref (b + x14), .int l1, .ref (b + x19), .ref (b + x23)] [] cf5 (own := "PulseRemote") rfl cmX5_find imX5_find (Or.inl k_1026) (by decide) rfl rfl rfl (Nat.le_of_ble_eq_true rfl) (by decide +kernel : decode cX11_strayCount 26 = .ok (.invokevirtual 315, 3)) (fun z hz => m_X5_find _ _ _ _ hz) rfl hf (fun z26 hf => ?_)
    refine r_aload_n hB 0 rfl (by decide +kernel : decode cX11_strayCount 29 = .ok (.aload_n 0, 1)) rfl ?_
    refine r_gR hB cf11 9 (by decide) (own := "PulseRemote") rfl (Or.inl k_474) (by decide +kernel) (by decide +kernel : decode cX11_strayCount 30 = .ok (.getfield 62, 3)) hf (fun x30 hf => ?_)
    refine r_gI hB cf5 4 (by decide) (own := "PulseRemote") rfl (Or.inr ⟨_, k_333⟩) (by decide +kernel) (by decide +kernel : decode cX11_strayCount 33 = .ok (.getfield 335, 3)) hf (fun x33 hf => ?_)
    obtain rfl := Option.some.inj hf
    obtain ⟨rfl, rfl⟩ := hk
    exact r_iret hB (by decide +kernel : decode cX11_strayCount 36 = .ok (.ireturn, 1))
theorem m_X11_strayCount (l : Launch) (D : va_G) (cy : Nat → ClassId) (b : Nat) {l0 : Nat} {l1 : Int32} {μ : MS} {z : Int32 × MS} (hf : f_X11_strayCount l0 l1 μ = some z) : Met l yX11_strayCount (.code yX11_strayCount cX11_strayCount 2 (some .int) :: GW) rmX11_strayCount (Pw D cy b [.ref (b + l0), .int l1] μ) (Qw D cy b (some (.int z.1)) (z.2)) rmX11_strayCount.cells rmX11_strayCount.slots (fun q => b ≤ q) :=
  met_of (by decide) (Nat.le_of_ble_eq_true rfl) (fun X hB _ => (t_X11_strayCount_0 hB hf ⟨rfl, rfl⟩))
-- PulseRemote.toleranceFor(II)I
set_option maxHeartbeats 4000000 in
set_option maxRecDepth 100000 in
theorem t_X11_toleranceFor_46 {X : BX} {D : va_G} {cy : Nat → ClassId} {b : Nat} {r : Option Value} {μ' : MS} (hB : BB X D cy b yX11_toleranceFor cX11_toleranceFor 4 (some .int) rmX11_toleranceFor)  {μ : MS} {z : (Int32 × MS)} (hf : f_X11_toleranceFor_46  μ = some z) (hk : (fun z : Int32 × MS => r = some (.int z.1) ∧ μ' = z.2) z) : WW X D cy b r μ' 4 0 0 46 [] [] μ := by
  unfold f_X11_toleranceFor_46 at hf
  refine r_bipush hB (v := (-9)) (by decide +kernel : decode cX11_toleranceFor 46 = .ok (.bipush (-9), 2)) (by decide +kernel) ?_
  obtain rfl := Option.some.inj hf
  obtain ⟨rfl, rfl⟩ := hk
  exact r_iret hB (by decide +kernel : decode cX11_toleranceFor 48 = .ok (.ireturn, 1))
set_option maxHeartbeats 4000000 in
set_option maxRecDepth 100000 in
theorem t_X11_toleranceFor_38 {X : BX} {D : va_G} {cy : Nat → ClassId} {b : Nat} {r : Option Value} {μ' : MS} (hB : BB X D cy b yX11_toleranceFor cX11_toleranceFor 4 (some .int) rmX11_toleranceFor) {l3 : Int32} {μ : MS} {z : (Int32 × MS)} (hf : f_X11_toleranceFor_38 l3 μ = some z) (hk : (fun z : Int32 × MS => r = some (.int z.1) ∧ μ' = z.2) z) : WW X D cy b r μ' 4 0 0 38 [(3, .int l3)] [] μ := by
  unfold f_X11_toleranceFor_38 at hf
  refine r_iload_n hB 0 rfl (by decide +kernel : decode cX11_toleranceFor 38 = .ok (.iload_n 3, 1)) rfl ?_
  obtain rfl := Option.some.inj hf
  obtain ⟨rfl, rfl⟩ := hk
  exact r_iret hB (by decide +kernel : decode cX11_toleranceFor 39 = .ok (.ireturn, 1))
set_option maxHeartbeats 4000000 in
set_option maxRecDepth 100000 in
theorem t_X11_toleranceFor_2_b {X : BX} {D : va_G} {cy : Nat → ClassId} {b : Nat} {r : Option Value} {μ' : MS} (hB : BB X D cy b yX11_toleranceFor cX11_toleranceFor 4 (some .int) rmX11_toleranceFor) {l0 : Nat} {l1 : Int32} {l3 : Int32} {μ : MS} {z : ((Nat × Int32 × Int32 × MS) ⊕ (Int32 × MS))} (hf : f_X11_toleranceFor_2_b l0 l1 l3 μ = some z) (hk : (Sum.elim (fun s : Nat × Int32 × Int32 × MS => WW X D cy b r μ' 4 0 0 2 [(0, .ref (b + s.1)), (1, .int s.2.1), (3, .int s.2.2.1)] [] s.2.2.2) (fun z : Int32 × MS => r = some (.int z.1) ∧ μ' = z.2)) z) : WW X D cy b r μ' 4 0 0 2 [(0, .ref (b + l0)), (1, .int l1), (3, .int l3)] [] μ := by
  unfold f_X11_toleranceFor_2_b at hf
  refine r_iload_n hB 2 rfl (by decide +kernel : decode cX11_toleranceFor 2 = .ok (.iload_n 3, 1)) rfl ?_
  refine r_bipush hB (v := 40) (by decide +kernel : decode cX11_toleranceFor 3 = .ok (.bipush 40, 2)) (by decide +kernel) ?_
  refine r_icmp_gt hB (tgt := 46) (by decide +kernel : decode cX11_toleranceFor 5 = .ok (.if_icmp .gt 41, 3)) (by decide) hf (fun _ hf => ?_) (fun _ hf => ?_)
  · obtain ⟨_, hx0, rfl⟩ := xr_inv hf
    exact WW.sub [] rfl (t_X11_toleranceFor_46 hB hx0 hk)
  · refine r_aload_n hB 0 rfl (by decide +kernel : decode cX11_toleranceFor 8 = .ok (.aload_n 0, 1)) rfl ?_
    refine r_gR hB cf11 8 (by decide) (own := "PulseRemote") rfl (Or.inl k_473) (by decide +kernel) (by decide +kernel : decode cX11_toleranceFor 9 = .ok (.getfield 55, 3)) hf (fun x9 hf => ?_)
    refine r_aload_n hB 0 rfl (by decide +kernel : decode cX11_toleranceFor 12 = .ok (.aload_n 0, 1)) rfl ?_
    refine r_gR hB cf11 0 (by decide) (own := "PulseRemote") rfl (Or.inl k_465) (by decide +kernel) (by decide +kernel : decode cX11_toleranceFor 13 = .ok (.getfield 12, 3)) hf (fun x13 hf => ?_)
    refine r_gR hB cf7 0 (by decide) (own := "PulseRemote") rfl (Or.inr ⟨_, k_212⟩) (by decide +kernel) (by decide +kernel : decode cX11_toleranceFor 16 = .ok (.getfield 84, 3)) hf (fun x16 hf => ?_)
    refine r_aload_n hB 0 rfl (by decide +kernel : decode cX11_toleranceFor 19 = .ok (.aload_n 0, 1)) rfl ?_
    refine r_gR hB cf11 7 (by decide) (own := "PulseRemote") rfl (Or.inl k_472) (by decide +kernel) (by decide +kernel : decode cX11_toleranceFor 20 = .ok (.getfield 48, 3)) hf (fun x20 hf => ?_)
    refine r_iload_n hB 1 rfl (by decide +kernel : decode cX11_toleranceFor 23 = .ok (.iload_n 1, 1)) rfl ?_
    refine r_iload_n hB 2 rfl (by decide +kernel : decode cX11_toleranceFor 24 = .ok (.iload_n 3, 1)) rfl ?_
    refine r_cVv hB [.ref (b + x16), .ref (b + x20), .int l1, .int l3] [] cf2 (own := "PulseRemote") rfl cmX2_decode imX2_decode (Or.inl k_958) (by decide) rfl rfl rfl (Nat.le_of_ble_eq_true rfl) (by decide +kernel : decode cX11_toleranceFor 25 = .ok (.invokevirtual 295, 3)) (fun z hz => m_X2_decode _ _ _ _ hz) rfl hf (fun z25 hf => ?_)
    refine r_aload_n hB 0 rfl (by decide +kernel : decode cX11_toleranceFor 28 = .ok (.aload_n 0, 1)) rfl ?_
    refine r_gR hB cf11 8 (by decide) (own := "PulseRemote") rfl (Or.inl k_473) (by decide +kernel) (by decide +kernel : decode cX11_toleranceFor 29 = .ok (.getfield 55, 3)) hf (fun x29 hf => ?_)
    refine r_cVi hB [] [] cf2 (own := "PulseRemote") rfl cmX2_isDecoded imX2_isDecoded (Or.inl k_1001) (by decide) rfl rfl rfl (Nat.le_of_ble_eq_true rfl) (by decide +kernel : decode cX11_toleranceFor 32 = .ok (.invokevirtual 299, 3)) (fun z hz => m_X2_isDecoded _ _ _ _ hz) rfl hf (fun z32 hf => ?_)
    refine r_if_eq hB (tgt := 40) (by decide +kernel : decode cX11_toleranceFor 35 = .ok (.ifCond .eq 5, 3)) (by decide) hf (fun _ hf => ?_) (fun _ hf => ?_)
    · refine r_iincB hB 2 rfl (by decide +kernel : decode cX11_toleranceFor 40 = .ok (.iinc 3 1, 3)) (w := 1) (by decide +kernel) (by decide) hf (fun v40 hf => ?_)
      refine ww_lv (lv' := [(3, .int v40), (0, .ref (b + l0)), (1, .int l1)]) rfl ?_
      refine r_goto hB (tgt := 2) (by decide +kernel : decode cX11_toleranceFor 43 = .ok (.goto (-41), 3)) (by decide) ?_
      obtain rfl := Option.some.inj hf
      exact WW.sub [1, 2, 0] rfl hk
    · obtain ⟨_, hx0, rfl⟩ := xr_inv hf
      exact WW.sub [2] rfl (t_X11_toleranceFor_38 hB hx0 hk)
set_option maxHeartbeats 4000000 in
set_option maxRecDepth 100000 in
theorem t_X11_toleranceFor_2 {X : BX} {D : va_G} {cy : Nat → ClassId} {b : Nat} {r : Option Value} {μ' : MS} (hB : BB X D cy b yX11_toleranceFor cX11_toleranceFor 4 (some .int) rmX11_toleranceFor) {l0 : Nat} {l1 : Int32} {l3 : Int32} {μ : MS} {z : (Int32 × MS)} (hf : f_X11_toleranceFor_2 l0 l1 l3 μ = some z) (hk : (fun z : Int32 × MS => r = some (.int z.1) ∧ μ' = z.2) z) : WW X D cy b r μ' 4 0 0 2 [(0, .ref (b + l0)), (1, .int l1), (3, .int l3)] [] μ :=
  lp_ind (P := fun s : Nat × Int32 × Int32 × MS => WW X D cy b r μ' 4 0 0 2 [(0, .ref (b + s.1)), (1, .int s.2.1), (3, .int s.2.2.1)] [] s.2.2.2) (Q := (fun z : Int32 × MS => r = some (.int z.1) ∧ μ' = z.2)) (fun s z hz hk => t_X11_toleranceFor_2_b hB hz hk) (l0, l1, l3, μ) z hf hk
set_option maxHeartbeats 4000000 in
set_option maxRecDepth 100000 in
theorem t_X11_toleranceFor_0 {X : BX} {D : va_G} {cy : Nat → ClassId} {b : Nat} {r : Option Value} {μ' : MS} (hB : BB X D cy b yX11_toleranceFor cX11_toleranceFor 4 (some .int) rmX11_toleranceFor) {l0 : Nat} {l1 : Int32} {l2 : Int32} {μ : MS} {z : (Int32 × MS)} (hf : f_X11_toleranceFor l0 l1 l2 μ = some z) (hk : (fun z : Int32 × MS => r = some (.int z.1) ∧ μ' = z.2) z) : WW X D cy b r μ' 4 0 0 0 [(0, .ref (b + l0)), (1, .int l1), (2, .int l2)] [] μ := by
  unfold f_X11_toleranceFor at hf
  refine r_iload_n hB 2 rfl (by decide +kernel : decode cX11_toleranceFor 0 = .ok (.iload_n 2, 1)) rfl ?_
  refine r_istore_n hB (by decide +kernel : decode cX11_toleranceFor 1 = .ok (.istore_n 3, 1)) rfl (by decide) rfl ?_
  refine ww_lv (lv' := [(3, .int l2), (0, .ref (b + l0)), (1, .int l1), (2, .int l2)]) rfl ?_
  exact WW.sub [1, 2, 0] rfl (t_X11_toleranceFor_2 hB hf hk)
theorem m_X11_toleranceFor (l : Launch) (D : va_G) (cy : Nat → ClassId) (b : Nat) {l0 : Nat} {l1 : Int32} {l2 : Int32} {μ : MS} {z : Int32 × MS} (hf : f_X11_toleranceFor l0 l1 l2 μ = some z) : Met l yX11_toleranceFor (.code yX11_toleranceFor cX11_toleranceFor 4 (some .int) :: GW) rmX11_toleranceFor (Pw D cy b [.ref (b + l0), .int l1, .int l2] μ) (Qw D cy b (some (.int z.1)) (z.2)) rmX11_toleranceFor.cells rmX11_toleranceFor.slots (fun q => b ≤ q) :=
  met_of (by decide) (Nat.le_of_ble_eq_true rfl) (fun X hB _ => (t_X11_toleranceFor_0 hB hf ⟨rfl, rfl⟩))
-- PulseRemote.neededTolerance(I)I
set_option maxHeartbeats 4000000 in
set_option maxRecDepth 100000 in
theorem t_X11_neededTolerance_68 {X : BX} {D : va_G} {cy : Nat → ClassId} {b : Nat} {r : Option Value} {μ' : MS} (hB : BB X D cy b yX11_neededTolerance cX11_neededTolerance 4 (some .int) rmX11_neededTolerance) {l2 : Int32} {μ : MS} {z : (Int32 × MS)} (hf : f_X11_neededTolerance_68 l2 μ = some z) (hk : (fun z : Int32 × MS => r = some (.int z.1) ∧ μ' = z.2) z) : WW X D cy b r μ' 4 0 0 68 [(2, .int l2)] [] μ := by
  unfold f_X11_neededTolerance_68 at hf
  refine r_iload_n hB 0 rfl (by decide +kernel : decode cX11_neededTolerance 68 = .ok (.iload_n 2, 1)) rfl ?_
  obtain rfl := Option.some.inj hf
  obtain ⟨rfl, rfl⟩ := hk
  exact r_iret hB (by decide +kernel : decode cX11_neededTolerance 69 = .ok (.ireturn, 1))
set_option maxHeartbeats 4000000 in
set_option maxRecDepth 100000 in
theorem t_X11_neededTolerance_59 {X : BX} {D : va_G} {cy : Nat → ClassId} {b : Nat} {r : Option Value} {μ' : MS} (hB : BB X D cy b yX11_neededTolerance cX11_neededTolerance 4 (some .int) rmX11_neededTolerance)  {μ : MS} {z : (Int32 × MS)} (hf : f_X11_neededTolerance_59  μ = some z) (hk : (fun z : Int32 × MS => r = some (.int z.1) ∧ μ' = z.2) z) : WW X D cy b r μ' 4 0 0 59 [] [] μ := by
  unfold f_X11_neededTolerance_59 at hf
  refine r_bipush hB (v := (-9)) (by decide +kernel : decode cX11_neededTolerance 59 = .ok (.bipush (-9), 2)) (by decide +kernel) ?_
  obtain rfl := Option.some.inj hf
  obtain ⟨rfl, rfl⟩ := hk
  exact r_iret hB (by decide +kernel : decode cX11_neededTolerance 61 = .ok (.ireturn, 1))
set_option maxHeartbeats 4000000 in
set_option maxRecDepth 100000 in
theorem t_X11_neededTolerance_35_b {X : BX} {D : va_G} {cy : Nat → ClassId} {b : Nat} {r : Option Value} {μ' : MS} (hB : BB X D cy b yX11_neededTolerance cX11_neededTolerance 4 (some .int) rmX11_neededTolerance) {l0 : Nat} {l2 : Int32} {l3 : Int32} {μ : MS} {z : ((Nat × Int32 × Int32 × MS) ⊕ (Int32 × MS))} (hf : f_X11_neededTolerance_35_b l0 l2 l3 μ = some z) (hk : (Sum.elim (fun s : Nat × Int32 × Int32 × MS => WW X D cy b r μ' 4 0 0 35 [(0, .ref (b + s.1)), (2, .int s.2.1), (3, .int s.2.2.1)] [] s.2.2.2) (fun z : Int32 × MS => r = some (.int z.1) ∧ μ' = z.2)) z) : WW X D cy b r μ' 4 0 0 35 [(0, .ref (b + l0)), (2, .int l2), (3, .int l3)] [] μ := by
  unfold f_X11_neededTolerance_35_b at hf
  refine r_iload_n hB 2 rfl (by decide +kernel : decode cX11_neededTolerance 35 = .ok (.iload_n 3, 1)) rfl ?_
  refine r_aload_n hB 0 rfl (by decide +kernel : decode cX11_neededTolerance 36 = .ok (.aload_n 0, 1)) rfl ?_
  refine r_gR hB cf11 7 (by decide) (own := "PulseRemote") rfl (Or.inl k_472) (by decide +kernel) (by decide +kernel : decode cX11_neededTolerance 37 = .ok (.getfield 48, 3)) hf (fun x37 hf => ?_)
  refine r_gI hB cf3 2 (by decide) (own := "PulseRemote") rfl (Or.inr ⟨_, k_277⟩) (by decide +kernel) (by decide +kernel : decode cX11_neededTolerance 40 = .ok (.getfield 286, 3)) hf (fun x40 hf => ?_)
  refine r_icmp_ge hB (tgt := 68) (by decide +kernel : decode cX11_neededTolerance 43 = .ok (.if_icmp .ge 25, 3)) (by decide) hf (fun _ hf => ?_) (fun _ hf => ?_)
  · obtain ⟨_, hx0, rfl⟩ := xr_inv hf
    exact WW.sub [1] rfl (t_X11_neededTolerance_68 hB hx0 hk)
  · refine r_aload_n hB 0 rfl (by decide +kernel : decode cX11_neededTolerance 46 = .ok (.aload_n 0, 1)) rfl ?_
    refine r_iload_n hB 2 rfl (by decide +kernel : decode cX11_neededTolerance 47 = .ok (.iload_n 3, 1)) rfl ?_
    refine r_iload_n hB 1 rfl (by decide +kernel : decode cX11_neededTolerance 48 = .ok (.iload_n 2, 1)) rfl ?_
    refine r_cVi hB [.int l3, .int l2] [] cf11 (own := "PulseRemote") rfl cmX11_toleranceFor imX11_toleranceFor (Or.inl k_1070) (by decide) rfl rfl rfl (Nat.le_of_ble_eq_true rfl) (by decide +kernel : decode cX11_neededTolerance 49 = .ok (.invokevirtual 338, 3)) (fun z hz => m_X11_toleranceFor _ _ _ _ hz) rfl hf (fun z49 hf => ?_)
    refine r_istore_n hB (by decide +kernel : decode cX11_neededTolerance 52 = .ok (.istore_n 2, 1)) rfl (by decide) rfl ?_
    refine ww_lv (lv' := [(2, .int z49.1), (0, .ref (b + l0)), (3, .int l3)]) rfl ?_
    refine r_iload_n hB 0 rfl (by decide +kernel : decode cX11_neededTolerance 53 = .ok (.iload_n 2, 1)) rfl ?_
    refine r_bipush hB (v := (-9)) (by decide +kernel : decode cX11_neededTolerance 54 = .ok (.bipush (-9), 2)) (by decide +kernel) ?_
    refine r_icmp_ne hB (tgt := 62) (by decide +kernel : decode cX11_neededTolerance 56 = .ok (.if_icmp .ne 6, 3)) (by decide) hf (fun _ hf => ?_) (fun _ hf => ?_)
    · obtain ⟨_, hx0, rfl⟩ := xr_inv hf
      exact WW.sub [] rfl (t_X11_neededTolerance_59 hB hx0 hk)
    · refine r_iincB hB 2 rfl (by decide +kernel : decode cX11_neededTolerance 62 = .ok (.iinc 3 1, 3)) (w := 1) (by decide +kernel) (by decide) hf (fun v62 hf => ?_)
      refine ww_lv (lv' := [(3, .int v62), (2, .int z49.1), (0, .ref (b + l0))]) rfl ?_
      refine r_goto hB (tgt := 35) (by decide +kernel : decode cX11_neededTolerance 65 = .ok (.goto (-30), 3)) (by decide) ?_
      obtain rfl := Option.some.inj hf
      exact WW.sub [2, 1, 0] rfl hk
set_option maxHeartbeats 4000000 in
set_option maxRecDepth 100000 in
theorem t_X11_neededTolerance_35 {X : BX} {D : va_G} {cy : Nat → ClassId} {b : Nat} {r : Option Value} {μ' : MS} (hB : BB X D cy b yX11_neededTolerance cX11_neededTolerance 4 (some .int) rmX11_neededTolerance) {l0 : Nat} {l2 : Int32} {l3 : Int32} {μ : MS} {z : (Int32 × MS)} (hf : f_X11_neededTolerance_35 l0 l2 l3 μ = some z) (hk : (fun z : Int32 × MS => r = some (.int z.1) ∧ μ' = z.2) z) : WW X D cy b r μ' 4 0 0 35 [(0, .ref (b + l0)), (2, .int l2), (3, .int l3)] [] μ :=
  lp_ind (P := fun s : Nat × Int32 × Int32 × MS => WW X D cy b r μ' 4 0 0 35 [(0, .ref (b + s.1)), (2, .int s.2.1), (3, .int s.2.2.1)] [] s.2.2.2) (Q := (fun z : Int32 × MS => r = some (.int z.1) ∧ μ' = z.2)) (fun s z hz hk => t_X11_neededTolerance_35_b hB hz hk) (l0, l2, l3, μ) z hf hk
set_option maxHeartbeats 4000000 in
set_option maxRecDepth 100000 in
theorem t_X11_neededTolerance_0 {X : BX} {D : va_G} {cy : Nat → ClassId} {b : Nat} {r : Option Value} {μ' : MS} (hB : BB X D cy b yX11_neededTolerance cX11_neededTolerance 4 (some .int) rmX11_neededTolerance) {l0 : Nat} {l1 : Int32} {μ : MS} {z : (Int32 × MS)} (hf : f_X11_neededTolerance l0 l1 μ = some z) (hk : (fun z : Int32 × MS => r = some (.int z.1) ∧ μ' = z.2) z) : WW X D cy b r μ' 4 0 0 0 [(0, .ref (b + l0)), (1, .int l1)] [] μ := by
  unfold f_X11_neededTolerance at hf
  refine r_iload_n hB 1 rfl (by decide +kernel : decode cX11_neededTolerance 0 = .ok (.iload_n 1, 1)) rfl ?_
  refine r_cSi hB [.int l1] [] (own := "PulseRemote") rfl cmX11_isSlot smX11_isSlot (Or.inl ⟨rfl, k_589⟩) (by decide) rfl rfl rfl (Nat.le_of_ble_eq_true rfl) (by decide +kernel : decode cX11_neededTolerance 1 = .ok (.invokestatic 156, 3)) (fun z hz => m_X11_isSlot _ _ _ _ hz) rfl hf (fun z1 hf => ?_)
  refine r_if_ne hB (tgt := 9) (by decide +kernel : decode cX11_neededTolerance 4 = .ok (.ifCond .ne 5, 3)) (by decide) hf (fun _ hf => ?_) (fun _ hf => ?_)
  · refine r_iconst hB (v := (-1)) (by decide +kernel : decode cX11_neededTolerance 7 = .ok (.iconst (-1), 1)) (by decide +kernel) ?_
    obtain rfl := Option.some.inj hf
    obtain ⟨rfl, rfl⟩ := hk
    exact r_iret hB (by decide +kernel : decode cX11_neededTolerance 8 = .ok (.ireturn, 1))
  · refine r_aload_n hB 0 rfl (by decide +kernel : decode cX11_neededTolerance 9 = .ok (.aload_n 0, 1)) rfl ?_
    refine r_gR hB cf11 7 (by decide) (own := "PulseRemote") rfl (Or.inl k_472) (by decide +kernel) (by decide +kernel : decode cX11_neededTolerance 10 = .ok (.getfield 48, 3)) hf (fun x10 hf => ?_)
    refine r_aload_n hB 0 rfl (by decide +kernel : decode cX11_neededTolerance 13 = .ok (.aload_n 0, 1)) rfl ?_
    refine r_gR hB cf11 0 (by decide) (own := "PulseRemote") rfl (Or.inl k_465) (by decide +kernel) (by decide +kernel : decode cX11_neededTolerance 14 = .ok (.getfield 12, 3)) hf (fun x14 hf => ?_)
    refine r_iload_n hB 1 rfl (by decide +kernel : decode cX11_neededTolerance 17 = .ok (.iload_n 1, 1)) rfl ?_
    refine r_cVr hB [.int l1] [.ref (b + x10)] cf7 (own := "PulseRemote") rfl cmX7_trainAt imX7_trainAt (Or.inl k_592) (by decide) rfl rfl rfl (Nat.le_of_ble_eq_true rfl) (by decide +kernel : decode cX11_neededTolerance 18 = .ok (.invokevirtual 159, 3)) (fun z hz => m_X7_trainAt _ _ _ _ hz) rfl hf (fun z18 hf => ?_)
    refine r_aload_n hB 0 rfl (by decide +kernel : decode cX11_neededTolerance 21 = .ok (.aload_n 0, 1)) rfl ?_
    refine r_gR hB cf11 0 (by decide) (own := "PulseRemote") rfl (Or.inl k_465) (by decide +kernel) (by decide +kernel : decode cX11_neededTolerance 22 = .ok (.getfield 12, 3)) hf (fun x22 hf => ?_)
    refine r_gI hB cf7 2 (by decide) (own := "PulseRemote") rfl (Or.inr ⟨_, k_216⟩) (by decide +kernel) (by decide +kernel : decode cX11_neededTolerance 25 = .ok (.getfield 163, 3)) hf (fun x25 hf => ?_)
    refine r_cVv hB [.ref (b + z18.1), .int x25] [] cf3 (own := "PulseRemote") rfl cmX3_split imX3_split (Or.inl k_597) (by decide) rfl rfl rfl (Nat.le_of_ble_eq_true rfl) (by decide +kernel : decode cX11_neededTolerance 28 = .ok (.invokevirtual 166, 3)) (fun z hz => m_X3_split _ _ _ _ hz) rfl hf (fun z28 hf => ?_)
    refine r_iconst hB (v := 0) (by decide +kernel : decode cX11_neededTolerance 31 = .ok (.iconst 0, 1)) (by decide +kernel) ?_
    refine r_istore_n hB (by decide +kernel : decode cX11_neededTolerance 32 = .ok (.istore_n 2, 1)) rfl (by decide) rfl ?_
    refine ww_lv (lv' := [(2, .int 0), (0, .ref (b + l0)), (1, .int l1)]) rfl ?_
    refine r_iconst hB (v := 0) (by decide +kernel : decode cX11_neededTolerance 33 = .ok (.iconst 0, 1)) (by decide +kernel) ?_
    refine r_istore_n hB (by decide +kernel : decode cX11_neededTolerance 34 = .ok (.istore_n 3, 1)) rfl (by decide) rfl ?_
    refine ww_lv (lv' := [(3, .int 0), (2, .int 0), (0, .ref (b + l0)), (1, .int l1)]) rfl ?_
    exact WW.sub [2, 1, 0] rfl (t_X11_neededTolerance_35 hB hf hk)
theorem m_X11_neededTolerance (l : Launch) (D : va_G) (cy : Nat → ClassId) (b : Nat) {l0 : Nat} {l1 : Int32} {μ : MS} {z : Int32 × MS} (hf : f_X11_neededTolerance l0 l1 μ = some z) : Met l yX11_neededTolerance (.code yX11_neededTolerance cX11_neededTolerance 4 (some .int) :: GW) rmX11_neededTolerance (Pw D cy b [.ref (b + l0), .int l1] μ) (Qw D cy b (some (.int z.1)) (z.2)) rmX11_neededTolerance.cells rmX11_neededTolerance.slots (fun q => b ≤ q) :=
  met_of (by decide) (Nat.le_of_ble_eq_true rfl) (fun X hB _ => (t_X11_neededTolerance_0 hB hf ⟨rfl, rfl⟩))
-- PulseRemote.buttonFrameAt(I)LPulseRemote$Train;
set_option maxHeartbeats 4000000 in
set_option maxRecDepth 100000 in
theorem t_X11_buttonFrameAt_0 {X : BX} {D : va_G} {cy : Nat → ClassId} {b : Nat} {r : Option Value} {μ' : MS} (hB : BB X D cy b yX11_buttonFrameAt cX11_buttonFrameAt 2 (some (.object "PulseRemote$Train")) rmX11_buttonFrameAt) {l0 : Nat} {l1 : Int32} {μ : MS} {z : (Nat × MS)} (hf : f_X11_buttonFrameAt l0 l1 μ = some z) (hk : (fun z : Nat × MS => r = some (.ref (b + z.1)) ∧ μ' = z.2) z) : WW X D cy b r μ' 2 0 0 0 [(0, .ref (b + l0)), (1, .int l1)] [] μ := by
  unfold f_X11_buttonFrameAt at hf
  refine r_aload_n hB 0 rfl (by decide +kernel : decode cX11_buttonFrameAt 0 = .ok (.aload_n 0, 1)) rfl ?_
  refine r_gR hB cf11 6 (by decide) (own := "PulseRemote") rfl (Or.inl k_471) (by decide +kernel) (by decide +kernel : decode cX11_buttonFrameAt 1 = .ok (.getfield 41, 3)) hf (fun x1 hf => ?_)
  refine r_iload_n hB 1 rfl (by decide +kernel : decode cX11_buttonFrameAt 4 = .ok (.iload_n 1, 1)) rfl ?_
  refine r_if_lt hB (tgt := 18) (by decide +kernel : decode cX11_buttonFrameAt 5 = .ok (.ifCond .lt 13, 3)) (by decide) hf (fun _ hf => ?_) (fun _ hf => ?_)
  · refine r_iconst hB (v := 0) (by decide +kernel : decode cX11_buttonFrameAt 18 = .ok (.iconst 0, 1)) (by decide +kernel) ?_
    refine r_aald hB (t := 20) (C := RX10) (Or.inr (Or.inr ⟨rfl, rfl⟩)) (by decide +kernel : decode cX11_buttonFrameAt 19 = .ok (.aaload, 1)) hf (fun x19 hf => ?_)
    obtain rfl := Option.some.inj hf
    obtain ⟨rfl, rfl⟩ := hk
    exact r_aret hB (by decide +kernel : decode cX11_buttonFrameAt 20 = .ok (.areturn, 1))
  · refine r_iload_n hB 1 rfl (by decide +kernel : decode cX11_buttonFrameAt 8 = .ok (.iload_n 1, 1)) rfl ?_
    refine r_bipush hB (v := 12) (by decide +kernel : decode cX11_buttonFrameAt 9 = .ok (.bipush 12, 2)) (by decide +kernel) ?_
    refine r_icmp_ge hB (tgt := 18) (by decide +kernel : decode cX11_buttonFrameAt 11 = .ok (.if_icmp .ge 7, 3)) (by decide) hf (fun _ hf => ?_) (fun _ hf => ?_)
    · refine r_iconst hB (v := 0) (by decide +kernel : decode cX11_buttonFrameAt 18 = .ok (.iconst 0, 1)) (by decide +kernel) ?_
      refine r_aald hB (t := 20) (C := RX10) (Or.inr (Or.inr ⟨rfl, rfl⟩)) (by decide +kernel : decode cX11_buttonFrameAt 19 = .ok (.aaload, 1)) hf (fun x19 hf => ?_)
      obtain rfl := Option.some.inj hf
      obtain ⟨rfl, rfl⟩ := hk
      exact r_aret hB (by decide +kernel : decode cX11_buttonFrameAt 20 = .ok (.areturn, 1))
    · refine r_iload_n hB 1 rfl (by decide +kernel : decode cX11_buttonFrameAt 14 = .ok (.iload_n 1, 1)) rfl ?_
      refine r_goto hB (tgt := 19) (by decide +kernel : decode cX11_buttonFrameAt 15 = .ok (.goto 4, 3)) (by decide) ?_
      refine r_aald hB (t := 20) (C := RX10) (Or.inr (Or.inr ⟨rfl, rfl⟩)) (by decide +kernel : decode cX11_buttonFrameAt 19 = .ok (.aaload, 1)) hf (fun x19 hf => ?_)
      obtain rfl := Option.some.inj hf
      obtain ⟨rfl, rfl⟩ := hk
      exact r_aret hB (by decide +kernel : decode cX11_buttonFrameAt 20 = .ok (.areturn, 1))
theorem m_X11_buttonFrameAt (l : Launch) (D : va_G) (cy : Nat → ClassId) (b : Nat) {l0 : Nat} {l1 : Int32} {μ : MS} {z : Nat × MS} (hf : f_X11_buttonFrameAt l0 l1 μ = some z) : Met l yX11_buttonFrameAt (.code yX11_buttonFrameAt cX11_buttonFrameAt 2 (some (.object "PulseRemote$Train")) :: GW) rmX11_buttonFrameAt (Pw D cy b [.ref (b + l0), .int l1] μ) (Qw D cy b (some (.ref (b + z.1))) (z.2)) rmX11_buttonFrameAt.cells rmX11_buttonFrameAt.slots (fun q => b ≤ q) :=
  met_of (by decide) (Nat.le_of_ble_eq_true rfl) (fun X hB _ => (t_X11_buttonFrameAt_0 hB hf ⟨rfl, rfl⟩))
-- PulseRemote.writeButtonFrames()V
set_option maxHeartbeats 4000000 in
set_option maxRecDepth 100000 in
theorem t_X11_writeButtonFrames_48 {X : BX} {D : va_G} {cy : Nat → ClassId} {b : Nat} {r : Option Value} {μ' : MS} (hB : BB X D cy b yX11_writeButtonFrames cX11_writeButtonFrames 4 none rmX11_writeButtonFrames)  {μ : MS} {z : MS} (hf : f_X11_writeButtonFrames_48  μ = some z) (hk : (fun z : MS => r = none ∧ μ' = z) z) : WW X D cy b r μ' 4 0 0 48 [] [] μ := by
  unfold f_X11_writeButtonFrames_48 at hf
  obtain rfl := Option.some.inj hf
  obtain ⟨rfl, rfl⟩ := hk
  exact r_vret hB (by decide +kernel : decode cX11_writeButtonFrames 48 = .ok (.return_, 1))
set_option maxHeartbeats 4000000 in
set_option maxRecDepth 100000 in
theorem t_X11_writeButtonFrames_10_b {X : BX} {D : va_G} {cy : Nat → ClassId} {b : Nat} {r : Option Value} {μ' : MS} (hB : BB X D cy b yX11_writeButtonFrames cX11_writeButtonFrames 4 none rmX11_writeButtonFrames) {l0 : Nat} {l1 : Nat} {l2 : Int32} {μ : MS} {z : ((Nat × Nat × Int32 × MS) ⊕ MS)} (hf : f_X11_writeButtonFrames_10_b l0 l1 l2 μ = some z) (hk : (Sum.elim (fun s : Nat × Nat × Int32 × MS => WW X D cy b r μ' 4 0 0 10 [(0, .ref (b + s.1)), (1, .ref (b + s.2.1)), (2, .int s.2.2.1)] [] s.2.2.2) (fun z : MS => r = none ∧ μ' = z)) z) : WW X D cy b r μ' 4 0 0 10 [(0, .ref (b + l0)), (1, .ref (b + l1)), (2, .int l2)] [] μ := by
  unfold f_X11_writeButtonFrames_10_b at hf
  refine r_iload_n hB 2 rfl (by decide +kernel : decode cX11_writeButtonFrames 10 = .ok (.iload_n 2, 1)) rfl ?_
  refine r_aload_n hB 1 rfl (by decide +kernel : decode cX11_writeButtonFrames 11 = .ok (.aload_n 1, 1)) rfl ?_
  refine r_gI hB cf8 4 (by decide) (own := "PulseRemote") rfl (Or.inr ⟨_, k_179⟩) (by decide +kernel) (by decide +kernel : decode cX11_writeButtonFrames 12 = .ok (.getfield 147, 3)) hf (fun x12 hf => ?_)
  refine r_icmp_ge hB (tgt := 48) (by decide +kernel : decode cX11_writeButtonFrames 15 = .ok (.if_icmp .ge 33, 3)) (by decide) hf (fun _ hf => ?_) (fun _ hf => ?_)
  · obtain ⟨_, hx0, rfl⟩ := xr_inv hf
    exact WW.sub [] rfl (t_X11_writeButtonFrames_48 hB hx0 hk)
  · refine r_aload_n hB 1 rfl (by decide +kernel : decode cX11_writeButtonFrames 18 = .ok (.aload_n 1, 1)) rfl ?_
    refine r_aload_n hB 1 rfl (by decide +kernel : decode cX11_writeButtonFrames 19 = .ok (.aload_n 1, 1)) rfl ?_
    refine r_iload_n hB 2 rfl (by decide +kernel : decode cX11_writeButtonFrames 20 = .ok (.iload_n 2, 1)) rfl ?_
    refine r_cVi hB [.int l2] [.ref (b + l1)] cf8 (own := "PulseRemote") rfl cmX8_protocolOfButton imX8_protocolOfButton (Or.inl k_714) (by decide) rfl rfl rfl (Nat.le_of_ble_eq_true rfl) (by decide +kernel : decode cX11_writeButtonFrames 21 = .ok (.invokevirtual 216, 3)) (fun z hz => m_X8_protocolOfButton _ _ _ _ hz) rfl hf (fun z21 hf => ?_)
    refine r_cVr hB [.int z21.1] [] cf8 (own := "PulseRemote") rfl cmX8_protocolAt imX8_protocolAt (Or.inl k_569) (by decide) rfl rfl rfl (Nat.le_of_ble_eq_true rfl) (by decide +kernel : decode cX11_writeButtonFrames 24 = .ok (.invokevirtual 102, 3)) (fun z hz => m_X8_protocolAt _ _ _ _ hz) rfl hf (fun z24 hf => ?_)
    refine r_astore_n hB (by decide +kernel : decode cX11_writeButtonFrames 27 = .ok (.astore_n 3, 1)) rfl (by decide) rfl ?_
    refine ww_lv (lv' := [(3, .ref (b + z24.1)), (0, .ref (b + l0)), (1, .ref (b + l1)), (2, .int l2)]) rfl ?_
    refine r_aload_n hB 0 rfl (by decide +kernel : decode cX11_writeButtonFrames 28 = .ok (.aload_n 3, 1)) rfl ?_
    refine r_aload_n hB 2 rfl (by decide +kernel : decode cX11_writeButtonFrames 29 = .ok (.aload_n 1, 1)) rfl ?_
    refine r_iload_n hB 3 rfl (by decide +kernel : decode cX11_writeButtonFrames 30 = .ok (.iload_n 2, 1)) rfl ?_
    refine r_cVi hB [.int l2] [.ref (b + z24.1)] cf8 (own := "PulseRemote") rfl cmX8_identityOfButton imX8_identityOfButton (Or.inl k_715) (by decide) rfl rfl rfl (Nat.le_of_ble_eq_true rfl) (by decide +kernel : decode cX11_writeButtonFrames 31 = .ok (.invokevirtual 219, 3)) (fun z hz => m_X8_identityOfButton _ _ _ _ hz) rfl hf (fun z31 hf => ?_)
    refine r_aload_n hB 1 rfl (by decide +kernel : decode cX11_writeButtonFrames 34 = .ok (.aload_n 0, 1)) rfl ?_
    refine r_iload_n hB 3 rfl (by decide +kernel : decode cX11_writeButtonFrames 35 = .ok (.iload_n 2, 1)) rfl ?_
    refine r_cVr hB [.int l2] [.int z31.1, .ref (b + z24.1)] cf11 (own := "PulseRemote") rfl cmX11_buttonFrameAt imX11_buttonFrameAt (Or.inl k_1082) (by decide) rfl rfl rfl (Nat.le_of_ble_eq_true rfl) (by decide +kernel : decode cX11_writeButtonFrames 36 = .ok (.invokevirtual 344, 3)) (fun z hz => m_X11_buttonFrameAt _ _ _ _ hz) rfl hf (fun z36 hf => ?_)
    refine r_cVv hB [.int z31.1, .ref (b + z36.1)] [] cf6 (own := "PulseRemote") rfl cmX6_writeFrame imX6_writeFrame (Or.inl k_863) (by decide) rfl rfl rfl (Nat.le_of_ble_eq_true rfl) (by decide +kernel : decode cX11_writeButtonFrames 39 = .ok (.invokevirtual 248, 3)) (fun z hz => m_X6_writeFrame _ _ _ _ hz) rfl hf (fun z39 hf => ?_)
    refine r_iincB hB 3 rfl (by decide +kernel : decode cX11_writeButtonFrames 42 = .ok (.iinc 2 1, 3)) (w := 1) (by decide +kernel) (by decide) hf (fun v42 hf => ?_)
    refine ww_lv (lv' := [(2, .int v42), (3, .ref (b + z24.1)), (0, .ref (b + l0)), (1, .ref (b + l1))]) rfl ?_
    refine r_goto hB (tgt := 10) (by decide +kernel : decode cX11_writeButtonFrames 45 = .ok (.goto (-35), 3)) (by decide) ?_
    obtain rfl := Option.some.inj hf
    exact WW.sub [2, 3, 0] rfl hk
set_option maxHeartbeats 4000000 in
set_option maxRecDepth 100000 in
theorem t_X11_writeButtonFrames_10 {X : BX} {D : va_G} {cy : Nat → ClassId} {b : Nat} {r : Option Value} {μ' : MS} (hB : BB X D cy b yX11_writeButtonFrames cX11_writeButtonFrames 4 none rmX11_writeButtonFrames) {l0 : Nat} {l1 : Nat} {l2 : Int32} {μ : MS} {z : MS} (hf : f_X11_writeButtonFrames_10 l0 l1 l2 μ = some z) (hk : (fun z : MS => r = none ∧ μ' = z) z) : WW X D cy b r μ' 4 0 0 10 [(0, .ref (b + l0)), (1, .ref (b + l1)), (2, .int l2)] [] μ :=
  lp_ind (P := fun s : Nat × Nat × Int32 × MS => WW X D cy b r μ' 4 0 0 10 [(0, .ref (b + s.1)), (1, .ref (b + s.2.1)), (2, .int s.2.2.1)] [] s.2.2.2) (Q := (fun z : MS => r = none ∧ μ' = z)) (fun s z hz hk => t_X11_writeButtonFrames_10_b hB hz hk) (l0, l1, l2, μ) z hf hk
set_option maxHeartbeats 4000000 in
set_option maxRecDepth 100000 in
theorem t_X11_writeButtonFrames_0 {X : BX} {D : va_G} {cy : Nat → ClassId} {b : Nat} {r : Option Value} {μ' : MS} (hB : BB X D cy b yX11_writeButtonFrames cX11_writeButtonFrames 4 none rmX11_writeButtonFrames) {l0 : Nat} {μ : MS} {z : MS} (hf : f_X11_writeButtonFrames l0 μ = some z) (hk : (fun z : MS => r = none ∧ μ' = z) z) : WW X D cy b r μ' 4 0 0 0 [(0, .ref (b + l0))] [] μ := by
  unfold f_X11_writeButtonFrames at hf
  refine r_aload_n hB 0 rfl (by decide +kernel : decode cX11_writeButtonFrames 0 = .ok (.aload_n 0, 1)) rfl ?_
  refine r_gR hB cf11 0 (by decide) (own := "PulseRemote") rfl (Or.inl k_465) (by decide +kernel) (by decide +kernel : decode cX11_writeButtonFrames 1 = .ok (.getfield 12, 3)) hf (fun x1 hf => ?_)
  refine r_gR hB cf7 0 (by decide) (own := "PulseRemote") rfl (Or.inr ⟨_, k_212⟩) (by decide +kernel) (by decide +kernel : decode cX11_writeButtonFrames 4 = .ok (.getfield 84, 3)) hf (fun x4 hf => ?_)
  refine r_astore_n hB (by decide +kernel : decode cX11_writeButtonFrames 7 = .ok (.astore_n 1, 1)) rfl (by decide) rfl ?_
  refine ww_lv (lv' := [(1, .ref (b + x4)), (0, .ref (b + l0))]) rfl ?_
  refine r_iconst hB (v := 0) (by decide +kernel : decode cX11_writeButtonFrames 8 = .ok (.iconst 0, 1)) (by decide +kernel) ?_
  refine r_istore_n hB (by decide +kernel : decode cX11_writeButtonFrames 9 = .ok (.istore_n 2, 1)) rfl (by decide) rfl ?_
  refine ww_lv (lv' := [(2, .int 0), (1, .ref (b + x4)), (0, .ref (b + l0))]) rfl ?_
  exact WW.sub [2, 1, 0] rfl (t_X11_writeButtonFrames_10 hB hf hk)
theorem m_X11_writeButtonFrames (l : Launch) (D : va_G) (cy : Nat → ClassId) (b : Nat) {l0 : Nat} {μ : MS} {z : MS} (hf : f_X11_writeButtonFrames l0 μ = some z) : Met l yX11_writeButtonFrames (.code yX11_writeButtonFrames cX11_writeButtonFrames 4 none :: GW) rmX11_writeButtonFrames (Pw D cy b [.ref (b + l0)] μ) (Qw D cy b (none) (z)) rmX11_writeButtonFrames.cells rmX11_writeButtonFrames.slots (fun q => b ≤ q) :=
  met_of (by decide) (Nat.le_of_ble_eq_true rfl) (fun X hB _ => (t_X11_writeButtonFrames_0 hB hf ⟨rfl, rfl⟩))
-- PulseRemote.isCollision(LPulseRemote$Train;I)Z
set_option maxHeartbeats 4000000 in
set_option maxRecDepth 100000 in
theorem t_X11_isCollision_51 {X : BX} {D : va_G} {cy : Nat → ClassId} {b : Nat} {r : Option Value} {μ' : MS} (hB : BB X D cy b yX11_isCollision cX11_isCollision 4 (some .boolean) rmX11_isCollision) {l0 : Nat} {μ : MS} {z : (Int32 × MS)} (hf : f_X11_isCollision_51 l0 μ = some z) (hk : (fun z : Int32 × MS => r = some (.int z.1) ∧ μ' = z.2) z) : WW X D cy b r μ' 4 0 0 51 [(0, .ref (b + l0))] [] μ := by
  unfold f_X11_isCollision_51 at hf
  refine r_aload_n hB 0 rfl (by decide +kernel : decode cX11_isCollision 51 = .ok (.aload_n 0, 1)) rfl ?_
  refine r_gR hB cf11 11 (by decide) (own := "PulseRemote") rfl (Or.inl k_476) (by decide +kernel) (by decide +kernel : decode cX11_isCollision 52 = .ok (.getfield 76, 3)) hf (fun x52 hf => ?_)
  refine r_cVi hB [] [] cf1 (own := "PulseRemote") rfl cmX1_nextDuration imX1_nextDuration (Or.inl k_1094) (by decide) rfl rfl rfl (Nat.le_of_ble_eq_true rfl) (by decide +kernel : decode cX11_isCollision 55 = .ok (.invokevirtual 375, 3)) (fun z hz => m_X1_nextDuration _ _ _ _ hz) rfl hf (fun z55 hf => ?_)
  refine r_if_ne hB (tgt := 65) (by decide +kernel : decode cX11_isCollision 58 = .ok (.ifCond .ne 7, 3)) (by decide) hf (fun _ hf => ?_) (fun _ hf => ?_)
  · refine r_iconst hB (v := 1) (by decide +kernel : decode cX11_isCollision 61 = .ok (.iconst 1, 1)) (by decide +kernel) ?_
    refine r_goto hB (tgt := 66) (by decide +kernel : decode cX11_isCollision 62 = .ok (.goto 4, 3)) (by decide) ?_
    obtain rfl := Option.some.inj hf
    obtain ⟨rfl, rfl⟩ := hk
    exact r_zret hB (Or.inr rfl) (by decide +kernel : decode cX11_isCollision 66 = .ok (.ireturn, 1))
  · refine r_iconst hB (v := 0) (by decide +kernel : decode cX11_isCollision 65 = .ok (.iconst 0, 1)) (by decide +kernel) ?_
    obtain rfl := Option.some.inj hf
    obtain ⟨rfl, rfl⟩ := hk
    exact r_zret hB (Or.inl rfl) (by decide +kernel : decode cX11_isCollision 66 = .ok (.ireturn, 1))
set_option maxHeartbeats 4000000 in
set_option maxRecDepth 100000 in
theorem t_X11_isCollision_43 {X : BX} {D : va_G} {cy : Nat → ClassId} {b : Nat} {r : Option Value} {μ' : MS} (hB : BB X D cy b yX11_isCollision cX11_isCollision 4 (some .boolean) rmX11_isCollision)  {μ : MS} {z : (Int32 × MS)} (hf : f_X11_isCollision_43  μ = some z) (hk : (fun z : Int32 × MS => r = some (.int z.1) ∧ μ' = z.2) z) : WW X D cy b r μ' 4 0 0 43 [] [] μ := by
  unfold f_X11_isCollision_43 at hf
  refine r_iconst hB (v := 0) (by decide +kernel : decode cX11_isCollision 43 = .ok (.iconst 0, 1)) (by decide +kernel) ?_
  obtain rfl := Option.some.inj hf
  obtain ⟨rfl, rfl⟩ := hk
  exact r_zret hB (Or.inl rfl) (by decide +kernel : decode cX11_isCollision 44 = .ok (.ireturn, 1))
set_option maxHeartbeats 4000000 in
set_option maxRecDepth 100000 in
theorem t_X11_isCollision_10_b {X : BX} {D : va_G} {cy : Nat → ClassId} {b : Nat} {r : Option Value} {μ' : MS} (hB : BB X D cy b yX11_isCollision cX11_isCollision 4 (some .boolean) rmX11_isCollision) {l0 : Nat} {l1 : Nat} {l3 : Int32} {μ : MS} {z : ((Nat × Nat × Int32 × MS) ⊕ (Int32 × MS))} (hf : f_X11_isCollision_10_b l0 l1 l3 μ = some z) (hk : (Sum.elim (fun s : Nat × Nat × Int32 × MS => WW X D cy b r μ' 4 0 0 10 [(0, .ref (b + s.1)), (1, .ref (b + s.2.1)), (3, .int s.2.2.1)] [] s.2.2.2) (fun z : Int32 × MS => r = some (.int z.1) ∧ μ' = z.2)) z) : WW X D cy b r μ' 4 0 0 10 [(0, .ref (b + l0)), (1, .ref (b + l1)), (3, .int l3)] [] μ := by
  unfold f_X11_isCollision_10_b at hf
  refine r_iload_n hB 2 rfl (by decide +kernel : decode cX11_isCollision 10 = .ok (.iload_n 3, 1)) rfl ?_
  refine r_aload_n hB 1 rfl (by decide +kernel : decode cX11_isCollision 11 = .ok (.aload_n 1, 1)) rfl ?_
  refine r_gI hB cf10 1 (by decide) (own := "PulseRemote") rfl (Or.inr ⟨_, k_204⟩) (by decide +kernel) (by decide +kernel : decode cX11_isCollision 12 = .ok (.getfield 244, 3)) hf (fun x12 hf => ?_)
  refine r_icmp_ge hB (tgt := 51) (by decide +kernel : decode cX11_isCollision 15 = .ok (.if_icmp .ge 36, 3)) (by decide) hf (fun _ hf => ?_) (fun _ hf => ?_)
  · obtain ⟨_, hx0, rfl⟩ := xr_inv hf
    exact WW.sub [0] rfl (t_X11_isCollision_51 hB hx0 hk)
  · refine r_aload_n hB 1 rfl (by decide +kernel : decode cX11_isCollision 18 = .ok (.aload_n 1, 1)) rfl ?_
    refine r_iload_n hB 2 rfl (by decide +kernel : decode cX11_isCollision 19 = .ok (.iload_n 3, 1)) rfl ?_
    refine r_cVi hB [.int l3] [] cf10 (own := "PulseRemote") rfl cmX10_at imX10_at (Or.inl k_884) (by decide) rfl rfl rfl (Nat.le_of_ble_eq_true rfl) (by decide +kernel : decode cX11_isCollision 20 = .ok (.invokevirtual 283, 3)) (fun z hz => m_X10_at _ _ _ _ hz) rfl hf (fun z20 hf => ?_)
    refine r_aload_n hB 0 rfl (by decide +kernel : decode cX11_isCollision 23 = .ok (.aload_n 0, 1)) rfl ?_
    refine r_gR hB cf11 11 (by decide) (own := "PulseRemote") rfl (Or.inl k_476) (by decide +kernel) (by decide +kernel : decode cX11_isCollision 24 = .ok (.getfield 76, 3)) hf (fun x24 hf => ?_)
    refine r_cVi hB [] [.int z20.1] cf1 (own := "PulseRemote") rfl cmX1_nextDuration imX1_nextDuration (Or.inl k_1094) (by decide) rfl rfl rfl (Nat.le_of_ble_eq_true rfl) (by decide +kernel : decode cX11_isCollision 27 = .ok (.invokevirtual 375, 3)) (fun z hz => m_X1_nextDuration _ _ _ _ hz) rfl hf (fun z27 hf => ?_)
    refine r_aload_n hB 0 rfl (by decide +kernel : decode cX11_isCollision 30 = .ok (.aload_n 0, 1)) rfl ?_
    refine r_gR hB cf11 0 (by decide) (own := "PulseRemote") rfl (Or.inl k_465) (by decide +kernel) (by decide +kernel : decode cX11_isCollision 31 = .ok (.getfield 12, 3)) hf (fun x31 hf => ?_)
    refine r_gI hB cf7 4 (by decide) (own := "PulseRemote") rfl (Or.inr ⟨_, k_222⟩) (by decide +kernel) (by decide +kernel : decode cX11_isCollision 34 = .ok (.getfield 226, 3)) hf (fun x34 hf => ?_)
    refine r_cSi hB [.int z20.1, .int z27.1, .int x34] [] (own := "PulseRemote") rfl cmX11_matches smX11_matches (Or.inl ⟨rfl, k_1095⟩) (by decide) rfl rfl rfl (Nat.le_of_ble_eq_true rfl) (by decide +kernel : decode cX11_isCollision 37 = .ok (.invokestatic 378, 3)) (fun z hz => m_X11_matches _ _ _ _ hz) rfl hf (fun z37 hf => ?_)
    refine r_if_ne hB (tgt := 45) (by decide +kernel : decode cX11_isCollision 40 = .ok (.ifCond .ne 5, 3)) (by decide) hf (fun _ hf => ?_) (fun _ hf => ?_)
    · obtain ⟨_, hx0, rfl⟩ := xr_inv hf
      exact WW.sub [] rfl (t_X11_isCollision_43 hB hx0 hk)
    · refine r_iincB hB 2 rfl (by decide +kernel : decode cX11_isCollision 45 = .ok (.iinc 3 1, 3)) (w := 1) (by decide +kernel) (by decide) hf (fun v45 hf => ?_)
      refine ww_lv (lv' := [(3, .int v45), (0, .ref (b + l0)), (1, .ref (b + l1))]) rfl ?_
      refine r_goto hB (tgt := 10) (by decide +kernel : decode cX11_isCollision 48 = .ok (.goto (-38), 3)) (by decide) ?_
      obtain rfl := Option.some.inj hf
      exact WW.sub [1, 2, 0] rfl hk
set_option maxHeartbeats 4000000 in
set_option maxRecDepth 100000 in
theorem t_X11_isCollision_10 {X : BX} {D : va_G} {cy : Nat → ClassId} {b : Nat} {r : Option Value} {μ' : MS} (hB : BB X D cy b yX11_isCollision cX11_isCollision 4 (some .boolean) rmX11_isCollision) {l0 : Nat} {l1 : Nat} {l3 : Int32} {μ : MS} {z : (Int32 × MS)} (hf : f_X11_isCollision_10 l0 l1 l3 μ = some z) (hk : (fun z : Int32 × MS => r = some (.int z.1) ∧ μ' = z.2) z) : WW X D cy b r μ' 4 0 0 10 [(0, .ref (b + l0)), (1, .ref (b + l1)), (3, .int l3)] [] μ :=
  lp_ind (P := fun s : Nat × Nat × Int32 × MS => WW X D cy b r μ' 4 0 0 10 [(0, .ref (b + s.1)), (1, .ref (b + s.2.1)), (3, .int s.2.2.1)] [] s.2.2.2) (Q := (fun z : Int32 × MS => r = some (.int z.1) ∧ μ' = z.2)) (fun s z hz hk => t_X11_isCollision_10_b hB hz hk) (l0, l1, l3, μ) z hf hk
set_option maxHeartbeats 4000000 in
set_option maxRecDepth 100000 in
theorem t_X11_isCollision_0 {X : BX} {D : va_G} {cy : Nat → ClassId} {b : Nat} {r : Option Value} {μ' : MS} (hB : BB X D cy b yX11_isCollision cX11_isCollision 4 (some .boolean) rmX11_isCollision) {l0 : Nat} {l1 : Nat} {l2 : Int32} {μ : MS} {z : (Int32 × MS)} (hf : f_X11_isCollision l0 l1 l2 μ = some z) (hk : (fun z : Int32 × MS => r = some (.int z.1) ∧ μ' = z.2) z) : WW X D cy b r μ' 4 0 0 0 [(0, .ref (b + l0)), (1, .ref (b + l1)), (2, .int l2)] [] μ := by
  unfold f_X11_isCollision at hf
  refine r_aload_n hB 0 rfl (by decide +kernel : decode cX11_isCollision 0 = .ok (.aload_n 0, 1)) rfl ?_
  refine r_gR hB cf11 11 (by decide) (own := "PulseRemote") rfl (Or.inl k_476) (by decide +kernel) (by decide +kernel : decode cX11_isCollision 1 = .ok (.getfield 76, 3)) hf (fun x1 hf => ?_)
  refine r_iload_n hB 2 rfl (by decide +kernel : decode cX11_isCollision 4 = .ok (.iload_n 2, 1)) rfl ?_
  refine r_cVv hB [.int l2] [] cf1 (own := "PulseRemote") rfl cmX1_begin imX1_begin (Or.inl k_906) (by decide) rfl rfl rfl (Nat.le_of_ble_eq_true rfl) (by decide +kernel : decode cX11_isCollision 5 = .ok (.invokevirtual 267, 3)) (fun z hz => m_X1_begin _ _ _ _ hz) rfl hf (fun z5 hf => ?_)
  refine r_iconst hB (v := 0) (by decide +kernel : decode cX11_isCollision 8 = .ok (.iconst 0, 1)) (by decide +kernel) ?_
  refine r_istore_n hB (by decide +kernel : decode cX11_isCollision 9 = .ok (.istore_n 3, 1)) rfl (by decide) rfl ?_
  refine ww_lv (lv' := [(3, .int 0), (0, .ref (b + l0)), (1, .ref (b + l1)), (2, .int l2)]) rfl ?_
  exact WW.sub [1, 2, 0] rfl (t_X11_isCollision_10 hB hf hk)
theorem m_X11_isCollision (l : Launch) (D : va_G) (cy : Nat → ClassId) (b : Nat) {l0 : Nat} {l1 : Nat} {l2 : Int32} {μ : MS} {z : Int32 × MS} (hf : f_X11_isCollision l0 l1 l2 μ = some z) : Met l yX11_isCollision (.code yX11_isCollision cX11_isCollision 4 (some .boolean) :: GW) rmX11_isCollision (Pw D cy b [.ref (b + l0), .ref (b + l1), .int l2] μ) (Qw D cy b (some (.int z.1)) (z.2)) rmX11_isCollision.cells rmX11_isCollision.slots (fun q => b ≤ q) :=
  met_of (by decide) (Nat.le_of_ble_eq_true rfl) (fun X hB _ => (t_X11_isCollision_0 hB hf ⟨rfl, rfl⟩))
-- PulseRemote.explainingOffset(LPulseRemote$Train;LPulseRemote$Train;LPulseRemote$Train;I)I
set_option maxHeartbeats 4000000 in
set_option maxRecDepth 100000 in
theorem t_X11_explainingOffset_44 {X : BX} {D : va_G} {cy : Nat → ClassId} {b : Nat} {r : Option Value} {μ' : MS} (hB : BB X D cy b yX11_explainingOffset cX11_explainingOffset 6 (some .int) rmX11_explainingOffset)  {μ : MS} {z : (Int32 × MS)} (hf : f_X11_explainingOffset_44  μ = some z) (hk : (fun z : Int32 × MS => r = some (.int z.1) ∧ μ' = z.2) z) : WW X D cy b r μ' 6 0 0 44 [] [] μ := by
  unfold f_X11_explainingOffset_44 at hf
  refine r_bipush hB (v := (-9)) (by decide +kernel : decode cX11_explainingOffset 44 = .ok (.bipush (-9), 2)) (by decide +kernel) ?_
  obtain rfl := Option.some.inj hf
  obtain ⟨rfl, rfl⟩ := hk
  exact r_iret hB (by decide +kernel : decode cX11_explainingOffset 46 = .ok (.ireturn, 1))
set_option maxHeartbeats 4000000 in
set_option maxRecDepth 100000 in
theorem t_X11_explainingOffset_32 {X : BX} {D : va_G} {cy : Nat → ClassId} {b : Nat} {r : Option Value} {μ' : MS} (hB : BB X D cy b yX11_explainingOffset cX11_explainingOffset 6 (some .int) rmX11_explainingOffset) {l4 : Int32} {l5 : Int32} {μ : MS} {z : (Int32 × MS)} (hf : f_X11_explainingOffset_32 l4 l5 μ = some z) (hk : (fun z : Int32 × MS => r = some (.int z.1) ∧ μ' = z.2) z) : WW X D cy b r μ' 6 0 0 32 [(4, .int l4), (5, .int l5)] [] μ := by
  unfold f_X11_explainingOffset_32 at hf
  refine r_iload hB 1 rfl (by decide +kernel : decode cX11_explainingOffset 32 = .ok (.iload 5, 2)) ?_
  refine r_iload hB 0 rfl (by decide +kernel : decode cX11_explainingOffset 34 = .ok (.iload 4, 2)) ?_
  refine r_imul hB (by decide +kernel : decode cX11_explainingOffset 36 = .ok (.imul, 1)) ?_
  obtain rfl := Option.some.inj hf
  obtain ⟨rfl, rfl⟩ := hk
  exact r_iret hB (by decide +kernel : decode cX11_explainingOffset 37 = .ok (.ireturn, 1))
set_option maxHeartbeats 4000000 in
set_option maxRecDepth 100000 in
theorem t_X11_explainingOffset_12_b {X : BX} {D : va_G} {cy : Nat → ClassId} {b : Nat} {r : Option Value} {μ' : MS} (hB : BB X D cy b yX11_explainingOffset cX11_explainingOffset 6 (some .int) rmX11_explainingOffset) {l0 : Nat} {l1 : Nat} {l4 : Int32} {l5 : Int32} {μ : MS} {z : ((Nat × Nat × Int32 × Int32 × MS) ⊕ (Int32 × MS))} (hf : f_X11_explainingOffset_12_b l0 l1 l4 l5 μ = some z) (hk : (Sum.elim (fun s : Nat × Nat × Int32 × Int32 × MS => WW X D cy b r μ' 6 0 0 12 [(0, .ref (b + s.1)), (1, .ref (b + s.2.1)), (4, .int s.2.2.1), (5, .int s.2.2.2.1)] [] s.2.2.2.2) (fun z : Int32 × MS => r = some (.int z.1) ∧ μ' = z.2)) z) : WW X D cy b r μ' 6 0 0 12 [(0, .ref (b + l0)), (1, .ref (b + l1)), (4, .int l4), (5, .int l5)] [] μ := by
  unfold f_X11_explainingOffset_12_b at hf
  refine r_iload hB 3 rfl (by decide +kernel : decode cX11_explainingOffset 12 = .ok (.iload 5, 2)) ?_
  refine r_bipush hB (v := 30) (by decide +kernel : decode cX11_explainingOffset 14 = .ok (.bipush 30, 2)) (by decide +kernel) ?_
  refine r_icmp_ge hB (tgt := 44) (by decide +kernel : decode cX11_explainingOffset 16 = .ok (.if_icmp .ge 28, 3)) (by decide) hf (fun _ hf => ?_) (fun _ hf => ?_)
  · obtain ⟨_, hx0, rfl⟩ := xr_inv hf
    exact WW.sub [] rfl (t_X11_explainingOffset_44 hB hx0 hk)
  · refine r_aload_n hB 0 rfl (by decide +kernel : decode cX11_explainingOffset 19 = .ok (.aload_n 0, 1)) rfl ?_
    refine r_aload_n hB 1 rfl (by decide +kernel : decode cX11_explainingOffset 20 = .ok (.aload_n 1, 1)) rfl ?_
    refine r_iload hB 3 rfl (by decide +kernel : decode cX11_explainingOffset 21 = .ok (.iload 5, 2)) ?_
    refine r_iload hB 2 rfl (by decide +kernel : decode cX11_explainingOffset 23 = .ok (.iload 4, 2)) ?_
    refine r_imul hB (by decide +kernel : decode cX11_explainingOffset 25 = .ok (.imul, 1)) ?_
    refine r_cVi hB [.ref (b + l1), .int (l5 * l4)] [] cf11 (own := "PulseRemote") rfl cmX11_isCollision imX11_isCollision (Or.inl k_1090) (by decide) rfl rfl rfl (Nat.le_of_ble_eq_true rfl) (by decide +kernel : decode cX11_explainingOffset 26 = .ok (.invokevirtual 371, 3)) (fun z hz => m_X11_isCollision _ _ _ _ hz) rfl hf (fun z26 hf => ?_)
    refine r_if_eq hB (tgt := 38) (by decide +kernel : decode cX11_explainingOffset 29 = .ok (.ifCond .eq 9, 3)) (by decide) hf (fun _ hf => ?_) (fun _ hf => ?_)
    · refine r_iincB hB 3 rfl (by decide +kernel : decode cX11_explainingOffset 38 = .ok (.iinc 5 1, 3)) (w := 1) (by decide +kernel) (by decide) hf (fun v38 hf => ?_)
      refine ww_lv (lv' := [(5, .int v38), (0, .ref (b + l0)), (1, .ref (b + l1)), (4, .int l4)]) rfl ?_
      refine r_goto hB (tgt := 12) (by decide +kernel : decode cX11_explainingOffset 41 = .ok (.goto (-29), 3)) (by decide) ?_
      obtain rfl := Option.some.inj hf
      exact WW.sub [1, 2, 3, 0] rfl hk
    · obtain ⟨_, hx0, rfl⟩ := xr_inv hf
      exact WW.sub [2, 3] rfl (t_X11_explainingOffset_32 hB hx0 hk)
set_option maxHeartbeats 4000000 in
set_option maxRecDepth 100000 in
theorem t_X11_explainingOffset_12 {X : BX} {D : va_G} {cy : Nat → ClassId} {b : Nat} {r : Option Value} {μ' : MS} (hB : BB X D cy b yX11_explainingOffset cX11_explainingOffset 6 (some .int) rmX11_explainingOffset) {l0 : Nat} {l1 : Nat} {l4 : Int32} {l5 : Int32} {μ : MS} {z : (Int32 × MS)} (hf : f_X11_explainingOffset_12 l0 l1 l4 l5 μ = some z) (hk : (fun z : Int32 × MS => r = some (.int z.1) ∧ μ' = z.2) z) : WW X D cy b r μ' 6 0 0 12 [(0, .ref (b + l0)), (1, .ref (b + l1)), (4, .int l4), (5, .int l5)] [] μ :=
  lp_ind (P := fun s : Nat × Nat × Int32 × Int32 × MS => WW X D cy b r μ' 6 0 0 12 [(0, .ref (b + s.1)), (1, .ref (b + s.2.1)), (4, .int s.2.2.1), (5, .int s.2.2.2.1)] [] s.2.2.2.2) (Q := (fun z : Int32 × MS => r = some (.int z.1) ∧ μ' = z.2)) (fun s z hz hk => t_X11_explainingOffset_12_b hB hz hk) (l0, l1, l4, l5, μ) z hf hk
set_option maxHeartbeats 4000000 in
set_option maxRecDepth 100000 in
theorem t_X11_explainingOffset_0 {X : BX} {D : va_G} {cy : Nat → ClassId} {b : Nat} {r : Option Value} {μ' : MS} (hB : BB X D cy b yX11_explainingOffset cX11_explainingOffset 6 (some .int) rmX11_explainingOffset) {l0 : Nat} {l1 : Nat} {l2 : Nat} {l3 : Nat} {l4 : Int32} {μ : MS} {z : (Int32 × MS)} (hf : f_X11_explainingOffset l0 l1 l2 l3 l4 μ = some z) (hk : (fun z : Int32 × MS => r = some (.int z.1) ∧ μ' = z.2) z) : WW X D cy b r μ' 6 0 0 0 [(0, .ref (b + l0)), (1, .ref (b + l1)), (2, .ref (b + l2)), (3, .ref (b + l3)), (4, .int l4)] [] μ := by
  unfold f_X11_explainingOffset at hf
  refine r_aload_n hB 0 rfl (by decide +kernel : decode cX11_explainingOffset 0 = .ok (.aload_n 0, 1)) rfl ?_
  refine r_gR hB cf11 11 (by decide) (own := "PulseRemote") rfl (Or.inl k_476) (by decide +kernel) (by decide +kernel : decode cX11_explainingOffset 1 = .ok (.getfield 76, 3)) hf (fun x1 hf => ?_)
  refine r_aload_n hB 2 rfl (by decide +kernel : decode cX11_explainingOffset 4 = .ok (.aload_n 2, 1)) rfl ?_
  refine r_aload_n hB 3 rfl (by decide +kernel : decode cX11_explainingOffset 5 = .ok (.aload_n 3, 1)) rfl ?_
  refine r_cVv hB [.ref (b + l2), .ref (b + l3)] [] cf1 (own := "PulseRemote") rfl cmX1_lay imX1_lay (Or.inl k_901) (by decide) rfl rfl rfl (Nat.le_of_ble_eq_true rfl) (by decide +kernel : decode cX11_explainingOffset 6 = .ok (.invokevirtual 263, 3)) (fun z hz => m_X1_lay _ _ _ _ hz) rfl hf (fun z6 hf => ?_)
  refine r_iconst hB (v := 0) (by decide +kernel : decode cX11_explainingOffset 9 = .ok (.iconst 0, 1)) (by decide +kernel) ?_
  refine r_istore hB (by decide +kernel : decode cX11_explainingOffset 10 = .ok (.istore 5, 2)) (by decide) rfl ?_
  refine ww_lv (lv' := [(5, .int 0), (0, .ref (b + l0)), (1, .ref (b + l1)), (2, .ref (b + l2)), (3, .ref (b + l3)), (4, .int l4)]) rfl ?_
  exact WW.sub [1, 2, 5, 0] rfl (t_X11_explainingOffset_12 hB hf hk)
theorem m_X11_explainingOffset (l : Launch) (D : va_G) (cy : Nat → ClassId) (b : Nat) {l0 : Nat} {l1 : Nat} {l2 : Nat} {l3 : Nat} {l4 : Int32} {μ : MS} {z : Int32 × MS} (hf : f_X11_explainingOffset l0 l1 l2 l3 l4 μ = some z) : Met l yX11_explainingOffset (.code yX11_explainingOffset cX11_explainingOffset 6 (some .int) :: GW) rmX11_explainingOffset (Pw D cy b [.ref (b + l0), .ref (b + l1), .ref (b + l2), .ref (b + l3), .int l4] μ) (Qw D cy b (some (.int z.1)) (z.2)) rmX11_explainingOffset.cells rmX11_explainingOffset.slots (fun q => b ≤ q) :=
  met_of (by decide) (Nat.le_of_ble_eq_true rfl) (fun X hB _ => (t_X11_explainingOffset_0 hB hf ⟨rfl, rfl⟩))
-- PulseRemote.explain(III)I
set_option maxHeartbeats 4000000 in
set_option maxRecDepth 100000 in
theorem t_X11_explain_138 {X : BX} {D : va_G} {cy : Nat → ClassId} {b : Nat} {r : Option Value} {μ' : MS} (hB : BB X D cy b yX11_explain cX11_explain 9 (some .int) rmX11_explain)  {μ : MS} {z : (Int32 × MS)} (hf : f_X11_explain_138  μ = some z) (hk : (fun z : Int32 × MS => r = some (.int z.1) ∧ μ' = z.2) z) : WW X D cy b r μ' 9 0 0 138 [] [] μ := by
  unfold f_X11_explain_138 at hf
  refine r_bipush hB (v := (-9)) (by decide +kernel : decode cX11_explain 138 = .ok (.bipush (-9), 2)) (by decide +kernel) ?_
  obtain rfl := Option.some.inj hf
  obtain ⟨rfl, rfl⟩ := hk
  exact r_iret hB (by decide +kernel : decode cX11_explain 140 = .ok (.ireturn, 1))
set_option maxHeartbeats 4000000 in
set_option maxRecDepth 100000 in
theorem t_X11_explain_132 {X : BX} {D : va_G} {cy : Nat → ClassId} {b : Nat} {r : Option Value} {μ' : MS} (hB : BB X D cy b yX11_explain cX11_explain 9 (some .int) rmX11_explain) {l0 : Nat} {l2 : Int32} {l3 : Int32} {l4 : Nat} {l5 : Int32} {l6 : Int32} {μ : MS} {z : ((Nat × Int32 × Int32 × Nat × Int32 × Int32 × MS) ⊕ (Int32 × MS))} (hf : f_X11_explain_132 l0 l2 l3 l4 l5 l6 μ = some z) (hk : (Sum.elim (fun s : Nat × Int32 × Int32 × Nat × Int32 × Int32 × MS => WW X D cy b r μ' 9 0 0 59 [(0, .ref (b + s.1)), (2, .int s.2.1), (3, .int s.2.2.1), (4, .ref (b + s.2.2.2.1)), (5, .int s.2.2.2.2.1), (6, .int s.2.2.2.2.2.1)] [] s.2.2.2.2.2.2) (fun z : Int32 × MS => r = some (.int z.1) ∧ μ' = z.2)) z) : WW X D cy b r μ' 9 0 0 132 [(0, .ref (b + l0)), (2, .int l2), (3, .int l3), (4, .ref (b + l4)), (5, .int l5), (6, .int l6)] [] μ := by
  unfold f_X11_explain_132 at hf
  refine r_iincB hB 5 rfl (by decide +kernel : decode cX11_explain 132 = .ok (.iinc 6 1, 3)) (w := 1) (by decide +kernel) (by decide) hf (fun v132 hf => ?_)
  refine ww_lv (lv' := [(6, .int v132), (0, .ref (b + l0)), (2, .int l2), (3, .int l3), (4, .ref (b + l4)), (5, .int l5)]) rfl ?_
  refine r_goto hB (tgt := 59) (by decide +kernel : decode cX11_explain 135 = .ok (.goto (-76), 3)) (by decide) ?_
  obtain rfl := Option.some.inj hf
  exact WW.sub [1, 2, 3, 4, 5, 0] rfl hk
set_option maxHeartbeats 4000000 in
set_option maxRecDepth 100000 in
theorem t_X11_explain_104 {X : BX} {D : va_G} {cy : Nat → ClassId} {b : Nat} {r : Option Value} {μ' : MS} (hB : BB X D cy b yX11_explain cX11_explain 9 (some .int) rmX11_explain) {l3 : Int32} {l6 : Int32} {l7 : Int32} {l8 : Int32} {μ : MS} {z : (Int32 × MS)} (hf : f_X11_explain_104 l3 l6 l7 l8 μ = some z) (hk : (fun z : Int32 × MS => r = some (.int z.1) ∧ μ' = z.2) z) : WW X D cy b r μ' 9 0 0 104 [(3, .int l3), (6, .int l6), (7, .int l7), (8, .int l8)] [] μ := by
  unfold f_X11_explain_104 at hf
  refine r_iload_n hB 0 rfl (by decide +kernel : decode cX11_explain 104 = .ok (.iload_n 3, 1)) rfl ?_
  refine r_if_ne hB (tgt := 113) (by decide +kernel : decode cX11_explain 105 = .ok (.ifCond .ne 8, 3)) (by decide) hf (fun _ hf => ?_) (fun _ hf => ?_)
  · refine r_iload hB 1 rfl (by decide +kernel : decode cX11_explain 108 = .ok (.iload 6, 2)) ?_
    refine r_goto hB (tgt := 125) (by decide +kernel : decode cX11_explain 110 = .ok (.goto 15, 3)) (by decide) ?_
    obtain rfl := Option.some.inj hf
    obtain ⟨rfl, rfl⟩ := hk
    exact r_iret hB (by decide +kernel : decode cX11_explain 125 = .ok (.ireturn, 1))
  · refine r_iload_n hB 0 rfl (by decide +kernel : decode cX11_explain 113 = .ok (.iload_n 3, 1)) rfl ?_
    refine r_iconst hB (v := 1) (by decide +kernel : decode cX11_explain 114 = .ok (.iconst 1, 1)) (by decide +kernel) ?_
    refine r_icmp_ne hB (tgt := 123) (by decide +kernel : decode cX11_explain 115 = .ok (.if_icmp .ne 8, 3)) (by decide) hf (fun _ hf => ?_) (fun _ hf => ?_)
    · refine r_iload hB 2 rfl (by decide +kernel : decode cX11_explain 118 = .ok (.iload 7, 2)) ?_
      refine r_goto hB (tgt := 125) (by decide +kernel : decode cX11_explain 120 = .ok (.goto 5, 3)) (by decide) ?_
      obtain rfl := Option.some.inj hf
      obtain ⟨rfl, rfl⟩ := hk
      exact r_iret hB (by decide +kernel : decode cX11_explain 125 = .ok (.ireturn, 1))
    · refine r_iload hB 3 rfl (by decide +kernel : decode cX11_explain 123 = .ok (.iload 8, 2)) ?_
      obtain rfl := Option.some.inj hf
      obtain ⟨rfl, rfl⟩ := hk
      exact r_iret hB (by decide +kernel : decode cX11_explain 125 = .ok (.ireturn, 1))
set_option maxHeartbeats 4000000 in
set_option maxRecDepth 100000 in
theorem t_X11_explain_69_b {X : BX} {D : va_G} {cy : Nat → ClassId} {b : Nat} {r : Option Value} {μ' : MS} (hB : BB X D cy b yX11_explain cX11_explain 9 (some .int) rmX11_explain) {l0 : Nat} {l2 : Int32} {l3 : Int32} {l4 : Nat} {l5 : Int32} {l6 : Int32} {l7 : Int32} {μ : MS} {z : ((Nat × Int32 × Int32 × Nat × Int32 × Int32 × Int32 × MS) ⊕ ((Nat × Int32 × Int32 × Nat × Int32 × Int32 × MS) ⊕ (Int32 × MS)))} (hf : f_X11_explain_69_b l0 l2 l3 l4 l5 l6 l7 μ = some z) (hk : (Sum.elim (fun s : Nat × Int32 × Int32 × Nat × Int32 × Int32 × Int32 × MS => WW X D cy b r μ' 9 0 0 69 [(0, .ref (b + s.1)), (2, .int s.2.1), (3, .int s.2.2.1), (4, .ref (b + s.2.2.2.1)), (5, .int s.2.2.2.2.1), (6, .int s.2.2.2.2.2.1), (7, .int s.2.2.2.2.2.2.1)] [] s.2.2.2.2.2.2.2) (Sum.elim (fun s : Nat × Int32 × Int32 × Nat × Int32 × Int32 × MS => WW X D cy b r μ' 9 0 0 59 [(0, .ref (b + s.1)), (2, .int s.2.1), (3, .int s.2.2.1), (4, .ref (b + s.2.2.2.1)), (5, .int s.2.2.2.2.1), (6, .int s.2.2.2.2.2.1)] [] s.2.2.2.2.2.2) (fun z : Int32 × MS => r = some (.int z.1) ∧ μ' = z.2))) z) : WW X D cy b r μ' 9 0 0 69 [(0, .ref (b + l0)), (2, .int l2), (3, .int l3), (4, .ref (b + l4)), (5, .int l5), (6, .int l6), (7, .int l7)] [] μ := by
  unfold f_X11_explain_69_b at hf
  refine r_iload hB 6 rfl (by decide +kernel : decode cX11_explain 69 = .ok (.iload 7, 2)) ?_
  refine r_iload hB 4 rfl (by decide +kernel : decode cX11_explain 71 = .ok (.iload 5, 2)) ?_
  refine r_icmp_ge hB (tgt := 132) (by decide +kernel : decode cX11_explain 73 = .ok (.if_icmp .ge 59, 3)) (by decide) hf (fun _ hf => ?_) (fun _ hf => ?_)
  · obtain ⟨_, hx0, rfl⟩ := xr_inv hf
    exact WW.sub [0, 1, 2, 3, 4, 5] rfl (t_X11_explain_132 hB hx0 hk)
  · refine r_aload_n hB 0 rfl (by decide +kernel : decode cX11_explain 76 = .ok (.aload_n 0, 1)) rfl ?_
    refine r_aload hB 3 rfl (by decide +kernel : decode cX11_explain 77 = .ok (.aload 4, 2)) ?_
    refine r_aload_n hB 0 rfl (by decide +kernel : decode cX11_explain 79 = .ok (.aload_n 0, 1)) rfl ?_
    refine r_iload hB 5 rfl (by decide +kernel : decode cX11_explain 80 = .ok (.iload 6, 2)) ?_
    refine r_cVr hB [.int l6] [.ref (b + l4), .ref (b + l0)] cf11 (own := "PulseRemote") rfl cmX11_buttonFrameAt imX11_buttonFrameAt (Or.inl k_1082) (by decide) rfl rfl rfl (Nat.le_of_ble_eq_true rfl) (by decide +kernel : decode cX11_explain 82 = .ok (.invokevirtual 344, 3)) (fun z hz => m_X11_buttonFrameAt _ _ _ _ hz) rfl hf (fun z82 hf => ?_)
    refine r_aload_n hB 0 rfl (by decide +kernel : decode cX11_explain 85 = .ok (.aload_n 0, 1)) rfl ?_
    refine r_iload hB 6 rfl (by decide +kernel : decode cX11_explain 86 = .ok (.iload 7, 2)) ?_
    refine r_cVr hB [.int l7] [.ref (b + z82.1), .ref (b + l4), .ref (b + l0)] cf11 (own := "PulseRemote") rfl cmX11_buttonFrameAt imX11_buttonFrameAt (Or.inl k_1082) (by decide) rfl rfl rfl (Nat.le_of_ble_eq_true rfl) (by decide +kernel : decode cX11_explain 88 = .ok (.invokevirtual 344, 3)) (fun z hz => m_X11_buttonFrameAt _ _ _ _ hz) rfl hf (fun z88 hf => ?_)
    refine r_iload_n hB 1 rfl (by decide +kernel : decode cX11_explain 91 = .ok (.iload_n 2, 1)) rfl ?_
    refine r_cVi hB [.ref (b + l4), .ref (b + z82.1), .ref (b + z88.1), .int l2] [] cf11 (own := "PulseRemote") rfl cmX11_explainingOffset imX11_explainingOffset (Or.inl k_1086) (by decide) rfl rfl rfl (Nat.le_of_ble_eq_true rfl) (by decide +kernel : decode cX11_explain 92 = .ok (.invokevirtual 347, 3)) (fun z hz => m_X11_explainingOffset _ _ _ _ hz) rfl hf (fun z92 hf => ?_)
    refine r_istore hB (by decide +kernel : decode cX11_explain 95 = .ok (.istore 8, 2)) (by decide) rfl ?_
    refine ww_lv (lv' := [(8, .int z92.1), (0, .ref (b + l0)), (2, .int l2), (3, .int l3), (4, .ref (b + l4)), (5, .int l5), (6, .int l6), (7, .int l7)]) rfl ?_
    refine r_iload hB 0 rfl (by decide +kernel : decode cX11_explain 97 = .ok (.iload 8, 2)) ?_
    refine r_bipush hB (v := (-9)) (by decide +kernel : decode cX11_explain 99 = .ok (.bipush (-9), 2)) (by decide +kernel) ?_
    refine r_icmp_eq hB (tgt := 126) (by decide +kernel : decode cX11_explain 101 = .ok (.if_icmp .eq 25, 3)) (by decide) hf (fun _ hf => ?_) (fun _ hf => ?_)
    · refine r_iincB hB 7 rfl (by decide +kernel : decode cX11_explain 126 = .ok (.iinc 7 1, 3)) (w := 1) (by decide +kernel) (by decide) hf (fun v126 hf => ?_)
      refine ww_lv (lv' := [(7, .int v126), (8, .int z92.1), (0, .ref (b + l0)), (2, .int l2), (3, .int l3), (4, .ref (b + l4)), (5, .int l5), (6, .int l6)]) rfl ?_
      refine r_goto hB (tgt := 69) (by decide +kernel : decode cX11_explain 129 = .ok (.goto (-60), 3)) (by decide) ?_
      obtain rfl := Option.some.inj hf
      exact WW.sub [2, 3, 4, 5, 6, 7, 0] rfl hk
    · obtain ⟨_, hx0, rfl⟩ := xr_inv hf
      obtain ⟨_, hx1, rfl⟩ := xr_inv hx0
      exact WW.sub [3, 6, 7, 0] rfl (t_X11_explain_104 hB hx1 hk)
set_option maxHeartbeats 4000000 in
set_option maxRecDepth 100000 in
theorem t_X11_explain_69 {X : BX} {D : va_G} {cy : Nat → ClassId} {b : Nat} {r : Option Value} {μ' : MS} (hB : BB X D cy b yX11_explain cX11_explain 9 (some .int) rmX11_explain) {l0 : Nat} {l2 : Int32} {l3 : Int32} {l4 : Nat} {l5 : Int32} {l6 : Int32} {l7 : Int32} {μ : MS} {z : ((Nat × Int32 × Int32 × Nat × Int32 × Int32 × MS) ⊕ (Int32 × MS))} (hf : f_X11_explain_69 l0 l2 l3 l4 l5 l6 l7 μ = some z) (hk : (Sum.elim (fun s : Nat × Int32 × Int32 × Nat × Int32 × Int32 × MS => WW X D cy b r μ' 9 0 0 59 [(0, .ref (b + s.1)), (2, .int s.2.1), (3, .int s.2.2.1), (4, .ref (b + s.2.2.2.1)), (5, .int s.2.2.2.2.1), (6, .int s.2.2.2.2.2.1)] [] s.2.2.2.2.2.2) (fun z : Int32 × MS => r = some (.int z.1) ∧ μ' = z.2)) z) : WW X D cy b r μ' 9 0 0 69 [(0, .ref (b + l0)), (2, .int l2), (3, .int l3), (4, .ref (b + l4)), (5, .int l5), (6, .int l6), (7, .int l7)] [] μ :=
  lp_ind (P := fun s : Nat × Int32 × Int32 × Nat × Int32 × Int32 × Int32 × MS => WW X D cy b r μ' 9 0 0 69 [(0, .ref (b + s.1)), (2, .int s.2.1), (3, .int s.2.2.1), (4, .ref (b + s.2.2.2.1)), (5, .int s.2.2.2.2.1), (6, .int s.2.2.2.2.2.1), (7, .int s.2.2.2.2.2.2.1)] [] s.2.2.2.2.2.2.2) (Q := (Sum.elim (fun s : Nat × Int32 × Int32 × Nat × Int32 × Int32 × MS => WW X D cy b r μ' 9 0 0 59 [(0, .ref (b + s.1)), (2, .int s.2.1), (3, .int s.2.2.1), (4, .ref (b + s.2.2.2.1)), (5, .int s.2.2.2.2.1), (6, .int s.2.2.2.2.2.1)] [] s.2.2.2.2.2.2) (fun z : Int32 × MS => r = some (.int z.1) ∧ μ' = z.2))) (fun s z hz hk => t_X11_explain_69_b hB hz hk) (l0, l2, l3, l4, l5, l6, l7, μ) z hf hk
set_option maxHeartbeats 4000000 in
set_option maxRecDepth 100000 in
theorem t_X11_explain_59_b {X : BX} {D : va_G} {cy : Nat → ClassId} {b : Nat} {r : Option Value} {μ' : MS} (hB : BB X D cy b yX11_explain cX11_explain 9 (some .int) rmX11_explain) {l0 : Nat} {l2 : Int32} {l3 : Int32} {l4 : Nat} {l5 : Int32} {l6 : Int32} {μ : MS} {z : ((Nat × Int32 × Int32 × Nat × Int32 × Int32 × MS) ⊕ (Int32 × MS))} (hf : f_X11_explain_59_b l0 l2 l3 l4 l5 l6 μ = some z) (hk : (Sum.elim (fun s : Nat × Int32 × Int32 × Nat × Int32 × Int32 × MS => WW X D cy b r μ' 9 0 0 59 [(0, .ref (b + s.1)), (2, .int s.2.1), (3, .int s.2.2.1), (4, .ref (b + s.2.2.2.1)), (5, .int s.2.2.2.2.1), (6, .int s.2.2.2.2.2.1)] [] s.2.2.2.2.2.2) (fun z : Int32 × MS => r = some (.int z.1) ∧ μ' = z.2)) z) : WW X D cy b r μ' 9 0 0 59 [(0, .ref (b + l0)), (2, .int l2), (3, .int l3), (4, .ref (b + l4)), (5, .int l5), (6, .int l6)] [] μ := by
  unfold f_X11_explain_59_b at hf
  refine r_iload hB 5 rfl (by decide +kernel : decode cX11_explain 59 = .ok (.iload 6, 2)) ?_
  refine r_iload hB 4 rfl (by decide +kernel : decode cX11_explain 61 = .ok (.iload 5, 2)) ?_
  refine r_icmp_ge hB (tgt := 138) (by decide +kernel : decode cX11_explain 63 = .ok (.if_icmp .ge 75, 3)) (by decide) hf (fun _ hf => ?_) (fun _ hf => ?_)
  · obtain ⟨_, hx0, rfl⟩ := xr_inv hf
    exact WW.sub [] rfl (t_X11_explain_138 hB hx0 hk)
  · refine r_iconst hB (v := 0) (by decide +kernel : decode cX11_explain 66 = .ok (.iconst 0, 1)) (by decide +kernel) ?_
    refine r_istore hB (by decide +kernel : decode cX11_explain 67 = .ok (.istore 7, 2)) (by decide) rfl ?_
    refine ww_lv (lv' := [(7, .int 0), (0, .ref (b + l0)), (2, .int l2), (3, .int l3), (4, .ref (b + l4)), (5, .int l5), (6, .int l6)]) rfl ?_
    exact WW.sub [1, 2, 3, 4, 5, 6, 0] rfl (t_X11_explain_69 hB hf hk)
set_option maxHeartbeats 4000000 in
set_option maxRecDepth 100000 in
theorem t_X11_explain_59 {X : BX} {D : va_G} {cy : Nat → ClassId} {b : Nat} {r : Option Value} {μ' : MS} (hB : BB X D cy b yX11_explain cX11_explain 9 (some .int) rmX11_explain) {l0 : Nat} {l2 : Int32} {l3 : Int32} {l4 : Nat} {l5 : Int32} {l6 : Int32} {μ : MS} {z : (Int32 × MS)} (hf : f_X11_explain_59 l0 l2 l3 l4 l5 l6 μ = some z) (hk : (fun z : Int32 × MS => r = some (.int z.1) ∧ μ' = z.2) z) : WW X D cy b r μ' 9 0 0 59 [(0, .ref (b + l0)), (2, .int l2), (3, .int l3), (4, .ref (b + l4)), (5, .int l5), (6, .int l6)] [] μ :=
  lp_ind (P := fun s : Nat × Int32 × Int32 × Nat × Int32 × Int32 × MS => WW X D cy b r μ' 9 0 0 59 [(0, .ref (b + s.1)), (2, .int s.2.1), (3, .int s.2.2.1), (4, .ref (b + s.2.2.2.1)), (5, .int s.2.2.2.2.1), (6, .int s.2.2.2.2.2.1)] [] s.2.2.2.2.2.2) (Q := (fun z : Int32 × MS => r = some (.int z.1) ∧ μ' = z.2)) (fun s z hz hk => t_X11_explain_59_b hB hz hk) (l0, l2, l3, l4, l5, l6, μ) z hf hk
set_option maxHeartbeats 4000000 in
set_option maxRecDepth 100000 in
theorem t_X11_explain_0 {X : BX} {D : va_G} {cy : Nat → ClassId} {b : Nat} {r : Option Value} {μ' : MS} (hB : BB X D cy b yX11_explain cX11_explain 9 (some .int) rmX11_explain) {l0 : Nat} {l1 : Int32} {l2 : Int32} {l3 : Int32} {μ : MS} {z : (Int32 × MS)} (hf : f_X11_explain l0 l1 l2 l3 μ = some z) (hk : (fun z : Int32 × MS => r = some (.int z.1) ∧ μ' = z.2) z) : WW X D cy b r μ' 9 0 0 0 [(0, .ref (b + l0)), (1, .int l1), (2, .int l2), (3, .int l3)] [] μ := by
  unfold f_X11_explain at hf
  refine r_iload_n hB 1 rfl (by decide +kernel : decode cX11_explain 0 = .ok (.iload_n 1, 1)) rfl ?_
  refine r_cSi hB [.int l1] [] (own := "PulseRemote") rfl cmX11_isSlot smX11_isSlot (Or.inl ⟨rfl, k_589⟩) (by decide) rfl rfl rfl (Nat.le_of_ble_eq_true rfl) (by decide +kernel : decode cX11_explain 1 = .ok (.invokestatic 156, 3)) (fun z hz => m_X11_isSlot _ _ _ _ hz) rfl hf (fun z1 hf => ?_)
  refine r_if_eq hB (tgt := 28) (by decide +kernel : decode cX11_explain 4 = .ok (.ifCond .eq 24, 3)) (by decide) hf (fun _ hf => ?_) (fun _ hf => ?_)
  · refine r_iconst hB (v := (-1)) (by decide +kernel : decode cX11_explain 28 = .ok (.iconst (-1), 1)) (by decide +kernel) ?_
    obtain rfl := Option.some.inj hf
    obtain ⟨rfl, rfl⟩ := hk
    exact r_iret hB (by decide +kernel : decode cX11_explain 29 = .ok (.ireturn, 1))
  · refine r_iload_n hB 2 rfl (by decide +kernel : decode cX11_explain 7 = .ok (.iload_n 2, 1)) rfl ?_
    refine r_bipush hB (v := 50) (by decide +kernel : decode cX11_explain 8 = .ok (.bipush 50, 2)) (by decide +kernel) ?_
    refine r_sipush hB (v := 2000) (by decide +kernel : decode cX11_explain 10 = .ok (.sipush 2000, 3)) (by decide +kernel) ?_
    refine r_cSi hB [.int l2, .int 50, .int 2000] [] (own := "PulseRemote") rfl cmX11_inRange smX11_inRange (Or.inl ⟨rfl, k_506⟩) (by decide) rfl rfl rfl (Nat.le_of_ble_eq_true rfl) (by decide +kernel : decode cX11_explain 13 = .ok (.invokestatic 80, 3)) (fun z hz => m_X11_inRange _ _ _ _ hz) rfl hf (fun z13 hf => ?_)
    refine r_if_eq hB (tgt := 28) (by decide +kernel : decode cX11_explain 16 = .ok (.ifCond .eq 12, 3)) (by decide) hf (fun _ hf => ?_) (fun _ hf => ?_)
    · refine r_iconst hB (v := (-1)) (by decide +kernel : decode cX11_explain 28 = .ok (.iconst (-1), 1)) (by decide +kernel) ?_
      obtain rfl := Option.some.inj hf
      obtain ⟨rfl, rfl⟩ := hk
      exact r_iret hB (by decide +kernel : decode cX11_explain 29 = .ok (.ireturn, 1))
    · refine r_iload_n hB 3 rfl (by decide +kernel : decode cX11_explain 19 = .ok (.iload_n 3, 1)) rfl ?_
      refine r_iconst hB (v := 0) (by decide +kernel : decode cX11_explain 20 = .ok (.iconst 0, 1)) (by decide +kernel) ?_
      refine r_iconst hB (v := 2) (by decide +kernel : decode cX11_explain 21 = .ok (.iconst 2, 1)) (by decide +kernel) ?_
      refine r_cSi hB [.int l3, .int 0, .int 2] [] (own := "PulseRemote") rfl cmX11_inRange smX11_inRange (Or.inl ⟨rfl, k_506⟩) (by decide) rfl rfl rfl (Nat.le_of_ble_eq_true rfl) (by decide +kernel : decode cX11_explain 22 = .ok (.invokestatic 80, 3)) (fun z hz => m_X11_inRange _ _ _ _ hz) rfl hf (fun z22 hf => ?_)
      refine r_if_ne hB (tgt := 30) (by decide +kernel : decode cX11_explain 25 = .ok (.ifCond .ne 5, 3)) (by decide) hf (fun _ hf => ?_) (fun _ hf => ?_)
      · refine r_iconst hB (v := (-1)) (by decide +kernel : decode cX11_explain 28 = .ok (.iconst (-1), 1)) (by decide +kernel) ?_
        obtain rfl := Option.some.inj hf
        obtain ⟨rfl, rfl⟩ := hk
        exact r_iret hB (by decide +kernel : decode cX11_explain 29 = .ok (.ireturn, 1))
      · refine r_aload_n hB 0 rfl (by decide +kernel : decode cX11_explain 30 = .ok (.aload_n 0, 1)) rfl ?_
        refine r_gR hB cf11 0 (by decide) (own := "PulseRemote") rfl (Or.inl k_465) (by decide +kernel) (by decide +kernel : decode cX11_explain 31 = .ok (.getfield 12, 3)) hf (fun x31 hf => ?_)
        refine r_iload_n hB 1 rfl (by decide +kernel : decode cX11_explain 34 = .ok (.iload_n 1, 1)) rfl ?_
        refine r_cVr hB [.int l1] [] cf7 (own := "PulseRemote") rfl cmX7_trainAt imX7_trainAt (Or.inl k_592) (by decide) rfl rfl rfl (Nat.le_of_ble_eq_true rfl) (by decide +kernel : decode cX11_explain 35 = .ok (.invokevirtual 159, 3)) (fun z hz => m_X7_trainAt _ _ _ _ hz) rfl hf (fun z35 hf => ?_)
        refine r_astore hB (by decide +kernel : decode cX11_explain 38 = .ok (.astore 4, 2)) (by decide) rfl ?_
        refine ww_lv (lv' := [(4, .ref (b + z35.1)), (0, .ref (b + l0)), (1, .int l1), (2, .int l2), (3, .int l3)]) rfl ?_
        refine r_aload_n hB 1 rfl (by decide +kernel : decode cX11_explain 40 = .ok (.aload_n 0, 1)) rfl ?_
        refine r_gR hB cf11 0 (by decide) (own := "PulseRemote") rfl (Or.inl k_465) (by decide +kernel) (by decide +kernel : decode cX11_explain 41 = .ok (.getfield 12, 3)) hf (fun x41 hf => ?_)
        refine r_gR hB cf7 0 (by decide) (own := "PulseRemote") rfl (Or.inr ⟨_, k_212⟩) (by decide +kernel) (by decide +kernel : decode cX11_explain 44 = .ok (.getfield 84, 3)) hf (fun x44 hf => ?_)
        refine r_gI hB cf8 4 (by decide) (own := "PulseRemote") rfl (Or.inr ⟨_, k_179⟩) (by decide +kernel) (by decide +kernel : decode cX11_explain 47 = .ok (.getfield 147, 3)) hf (fun x47 hf => ?_)
        refine r_istore hB (by decide +kernel : decode cX11_explain 50 = .ok (.istore 5, 2)) (by decide) rfl ?_
        refine ww_lv (lv' := [(5, .int x47), (4, .ref (b + z35.1)), (0, .ref (b + l0)), (1, .int l1), (2, .int l2), (3, .int l3)]) rfl ?_
        refine r_aload_n hB 2 rfl (by decide +kernel : decode cX11_explain 52 = .ok (.aload_n 0, 1)) rfl ?_
        refine r_cVv hB [] [] cf11 (own := "PulseRemote") rfl cmX11_writeButtonFrames imX11_writeButtonFrames (Or.inl k_1078) (by decide) rfl rfl rfl (Nat.le_of_ble_eq_true rfl) (by decide +kernel : decode cX11_explain 53 = .ok (.invokevirtual 341, 3)) (fun z hz => m_X11_writeButtonFrames _ _ _ _ hz) rfl hf (fun z53 hf => ?_)
        refine r_iconst hB (v := 0) (by decide +kernel : decode cX11_explain 56 = .ok (.iconst 0, 1)) (by decide +kernel) ?_
        refine r_istore hB (by decide +kernel : decode cX11_explain 57 = .ok (.istore 6, 2)) (by decide) rfl ?_
        refine ww_lv (lv' := [(6, .int 0), (5, .int x47), (4, .ref (b + z35.1)), (0, .ref (b + l0)), (1, .int l1), (2, .int l2), (3, .int l3)]) rfl ?_
        exact WW.sub [3, 5, 6, 2, 1, 0] rfl (t_X11_explain_59 hB hf hk)
theorem m_X11_explain (l : Launch) (D : va_G) (cy : Nat → ClassId) (b : Nat) {l0 : Nat} {l1 : Int32} {l2 : Int32} {l3 : Int32} {μ : MS} {z : Int32 × MS} (hf : f_X11_explain l0 l1 l2 l3 μ = some z) : Met l yX11_explain (.code yX11_explain cX11_explain 9 (some .int) :: GW) rmX11_explain (Pw D cy b [.ref (b + l0), .int l1, .int l2, .int l3] μ) (Qw D cy b (some (.int z.1)) (z.2)) rmX11_explain.cells rmX11_explain.slots (fun q => b ≤ q) :=
  met_of (by decide) (Nat.le_of_ble_eq_true rfl) (fun X hB _ => (t_X11_explain_0 hB hf ⟨rfl, rfl⟩))
-- PulseRemote.showsGhost(III)Z
set_option maxHeartbeats 4000000 in
set_option maxRecDepth 100000 in
theorem t_X11_showsGhost_160 {X : BX} {D : va_G} {cy : Nat → ClassId} {b : Nat} {r : Option Value} {μ' : MS} (hB : BB X D cy b yX11_showsGhost cX11_showsGhost 6 (some .boolean) rmX11_showsGhost)  {μ : MS} {z : (Int32 × MS)} (hf : f_X11_showsGhost_160  μ = some z) (hk : (fun z : Int32 × MS => r = some (.int z.1) ∧ μ' = z.2) z) : WW X D cy b r μ' 6 0 0 160 [] [] μ := by
  unfold f_X11_showsGhost_160 at hf
  refine r_iconst hB (v := 0) (by decide +kernel : decode cX11_showsGhost 160 = .ok (.iconst 0, 1)) (by decide +kernel) ?_
  obtain rfl := Option.some.inj hf
  obtain ⟨rfl, rfl⟩ := hk
  exact r_zret hB (Or.inl rfl) (by decide +kernel : decode cX11_showsGhost 161 = .ok (.ireturn, 1))
set_option maxHeartbeats 4000000 in
set_option maxRecDepth 100000 in
theorem t_X11_showsGhost_154 {X : BX} {D : va_G} {cy : Nat → ClassId} {b : Nat} {r : Option Value} {μ' : MS} (hB : BB X D cy b yX11_showsGhost cX11_showsGhost 6 (some .boolean) rmX11_showsGhost) {l0 : Nat} {l1 : Int32} {l2 : Int32} {l4 : Int32} {μ : MS} {z : ((Nat × Int32 × Int32 × Int32 × MS) ⊕ (Int32 × MS))} (hf : f_X11_showsGhost_154 l0 l1 l2 l4 μ = some z) (hk : (Sum.elim (fun s : Nat × Int32 × Int32 × Int32 × MS => WW X D cy b r μ' 6 0 0 58 [(0, .ref (b + s.1)), (1, .int s.2.1), (2, .int s.2.2.1), (4, .int s.2.2.2.1)] [] s.2.2.2.2) (fun z : Int32 × MS => r = some (.int z.1) ∧ μ' = z.2)) z) : WW X D cy b r μ' 6 0 0 154 [(0, .ref (b + l0)), (1, .int l1), (2, .int l2), (4, .int l4)] [] μ := by
  unfold f_X11_showsGhost_154 at hf
  refine r_iincB hB 3 rfl (by decide +kernel : decode cX11_showsGhost 154 = .ok (.iinc 4 1, 3)) (w := 1) (by decide +kernel) (by decide) hf (fun v154 hf => ?_)
  refine ww_lv (lv' := [(4, .int v154), (0, .ref (b + l0)), (1, .int l1), (2, .int l2)]) rfl ?_
  refine r_goto hB (tgt := 58) (by decide +kernel : decode cX11_showsGhost 157 = .ok (.goto (-99), 3)) (by decide) ?_
  obtain rfl := Option.some.inj hf
  exact WW.sub [1, 2, 3, 0] rfl hk
set_option maxHeartbeats 4000000 in
set_option maxRecDepth 100000 in
theorem t_X11_showsGhost_152 {X : BX} {D : va_G} {cy : Nat → ClassId} {b : Nat} {r : Option Value} {μ' : MS} (hB : BB X D cy b yX11_showsGhost cX11_showsGhost 6 (some .boolean) rmX11_showsGhost)  {μ : MS} {z : (Int32 × MS)} (hf : f_X11_showsGhost_152  μ = some z) (hk : (fun z : Int32 × MS => r = some (.int z.1) ∧ μ' = z.2) z) : WW X D cy b r μ' 6 0 0 152 [] [] μ := by
  unfold f_X11_showsGhost_152 at hf
  refine r_iconst hB (v := 1) (by decide +kernel : decode cX11_showsGhost 152 = .ok (.iconst 1, 1)) (by decide +kernel) ?_
  obtain rfl := Option.some.inj hf
  obtain ⟨rfl, rfl⟩ := hk
  exact r_zret hB (Or.inr rfl) (by decide +kernel : decode cX11_showsGhost 153 = .ok (.ireturn, 1))
set_option maxHeartbeats 4000000 in
set_option maxRecDepth 100000 in
theorem t_X11_showsGhost_58_b {X : BX} {D : va_G} {cy : Nat → ClassId} {b : Nat} {r : Option Value} {μ' : MS} (hB : BB X D cy b yX11_showsGhost cX11_showsGhost 6 (some .boolean) rmX11_showsGhost) {l0 : Nat} {l1 : Int32} {l2 : Int32} {l4 : Int32} {μ : MS} {z : ((Nat × Int32 × Int32 × Int32 × MS) ⊕ (Int32 × MS))} (hf : f_X11_showsGhost_58_b l0 l1 l2 l4 μ = some z) (hk : (Sum.elim (fun s : Nat × Int32 × Int32 × Int32 × MS => WW X D cy b r μ' 6 0 0 58 [(0, .ref (b + s.1)), (1, .int s.2.1), (2, .int s.2.2.1), (4, .int s.2.2.2.1)] [] s.2.2.2.2) (fun z : Int32 × MS => r = some (.int z.1) ∧ μ' = z.2)) z) : WW X D cy b r μ' 6 0 0 58 [(0, .ref (b + l0)), (1, .int l1), (2, .int l2), (4, .int l4)] [] μ := by
  unfold f_X11_showsGhost_58_b at hf
  refine r_iload hB 3 rfl (by decide +kernel : decode cX11_showsGhost 58 = .ok (.iload 4, 2)) ?_
  refine r_aload_n hB 0 rfl (by decide +kernel : decode cX11_showsGhost 60 = .ok (.aload_n 0, 1)) rfl ?_
  refine r_gR hB cf11 7 (by decide) (own := "PulseRemote") rfl (Or.inl k_472) (by decide +kernel) (by decide +kernel : decode cX11_showsGhost 61 = .ok (.getfield 48, 3)) hf (fun x61 hf => ?_)
  refine r_gI hB cf3 2 (by decide) (own := "PulseRemote") rfl (Or.inr ⟨_, k_277⟩) (by decide +kernel) (by decide +kernel : decode cX11_showsGhost 64 = .ok (.getfield 286, 3)) hf (fun x64 hf => ?_)
  refine r_icmp_ge hB (tgt := 160) (by decide +kernel : decode cX11_showsGhost 67 = .ok (.if_icmp .ge 93, 3)) (by decide) hf (fun _ hf => ?_) (fun _ hf => ?_)
  · obtain ⟨_, hx0, rfl⟩ := xr_inv hf
    exact WW.sub [] rfl (t_X11_showsGhost_160 hB hx0 hk)
  · refine r_aload_n hB 0 rfl (by decide +kernel : decode cX11_showsGhost 70 = .ok (.aload_n 0, 1)) rfl ?_
    refine r_gR hB cf11 8 (by decide) (own := "PulseRemote") rfl (Or.inl k_473) (by decide +kernel) (by decide +kernel : decode cX11_showsGhost 71 = .ok (.getfield 55, 3)) hf (fun x71 hf => ?_)
    refine r_aload_n hB 0 rfl (by decide +kernel : decode cX11_showsGhost 74 = .ok (.aload_n 0, 1)) rfl ?_
    refine r_gR hB cf11 0 (by decide) (own := "PulseRemote") rfl (Or.inl k_465) (by decide +kernel) (by decide +kernel : decode cX11_showsGhost 75 = .ok (.getfield 12, 3)) hf (fun x75 hf => ?_)
    refine r_gR hB cf7 0 (by decide) (own := "PulseRemote") rfl (Or.inr ⟨_, k_212⟩) (by decide +kernel) (by decide +kernel : decode cX11_showsGhost 78 = .ok (.getfield 84, 3)) hf (fun x78 hf => ?_)
    refine r_aload_n hB 0 rfl (by decide +kernel : decode cX11_showsGhost 81 = .ok (.aload_n 0, 1)) rfl ?_
    refine r_gR hB cf11 7 (by decide) (own := "PulseRemote") rfl (Or.inl k_472) (by decide +kernel) (by decide +kernel : decode cX11_showsGhost 82 = .ok (.getfield 48, 3)) hf (fun x82 hf => ?_)
    refine r_iload hB 3 rfl (by decide +kernel : decode cX11_showsGhost 85 = .ok (.iload 4, 2)) ?_
    refine r_aload_n hB 0 rfl (by decide +kernel : decode cX11_showsGhost 87 = .ok (.aload_n 0, 1)) rfl ?_
    refine r_gR hB cf11 0 (by decide) (own := "PulseRemote") rfl (Or.inl k_465) (by decide +kernel) (by decide +kernel : decode cX11_showsGhost 88 = .ok (.getfield 12, 3)) hf (fun x88 hf => ?_)
    refine r_gI hB cf7 4 (by decide) (own := "PulseRemote") rfl (Or.inr ⟨_, k_222⟩) (by decide +kernel) (by decide +kernel : decode cX11_showsGhost 91 = .ok (.getfield 226, 3)) hf (fun x91 hf => ?_)
    refine r_cVv hB [.ref (b + x78), .ref (b + x82), .int l4, .int x91] [] cf2 (own := "PulseRemote") rfl cmX2_decode imX2_decode (Or.inl k_958) (by decide) rfl rfl rfl (Nat.le_of_ble_eq_true rfl) (by decide +kernel : decode cX11_showsGhost 94 = .ok (.invokevirtual 295, 3)) (fun z hz => m_X2_decode _ _ _ _ hz) rfl hf (fun z94 hf => ?_)
    refine r_aload_n hB 0 rfl (by decide +kernel : decode cX11_showsGhost 97 = .ok (.aload_n 0, 1)) rfl ?_
    refine r_gR hB cf11 8 (by decide) (own := "PulseRemote") rfl (Or.inl k_473) (by decide +kernel) (by decide +kernel : decode cX11_showsGhost 98 = .ok (.getfield 55, 3)) hf (fun x98 hf => ?_)
    refine r_cVi hB [] [] cf2 (own := "PulseRemote") rfl cmX2_isCode imX2_isCode (Or.inl k_1005) (by decide) rfl rfl rfl (Nat.le_of_ble_eq_true rfl) (by decide +kernel : decode cX11_showsGhost 101 = .ok (.invokevirtual 308, 3)) (fun z hz => m_X2_isCode _ _ _ _ hz) rfl hf (fun z101 hf => ?_)
    refine r_if_eq hB (tgt := 154) (by decide +kernel : decode cX11_showsGhost 104 = .ok (.ifCond .eq 50, 3)) (by decide) hf (fun _ hf => ?_) (fun _ hf => ?_)
    · exact WW.sub [0, 1, 2, 3] rfl (t_X11_showsGhost_154 hB hf hk)
    · refine r_aload_n hB 0 rfl (by decide +kernel : decode cX11_showsGhost 107 = .ok (.aload_n 0, 1)) rfl ?_
      refine r_gR hB cf11 0 (by decide) (own := "PulseRemote") rfl (Or.inl k_465) (by decide +kernel) (by decide +kernel : decode cX11_showsGhost 108 = .ok (.getfield 12, 3)) hf (fun x108 hf => ?_)
      refine r_gR hB cf7 0 (by decide) (own := "PulseRemote") rfl (Or.inr ⟨_, k_212⟩) (by decide +kernel) (by decide +kernel : decode cX11_showsGhost 111 = .ok (.getfield 84, 3)) hf (fun x111 hf => ?_)
      refine r_aload_n hB 0 rfl (by decide +kernel : decode cX11_showsGhost 114 = .ok (.aload_n 0, 1)) rfl ?_
      refine r_gR hB cf11 8 (by decide) (own := "PulseRemote") rfl (Or.inl k_473) (by decide +kernel) (by decide +kernel : decode cX11_showsGhost 115 = .ok (.getfield 55, 3)) hf (fun x115 hf => ?_)
      refine r_gI hB cf2 0 (by decide) (own := "PulseRemote") rfl (Or.inr ⟨_, k_296⟩) (by decide +kernel) (by decide +kernel : decode cX11_showsGhost 118 = .ok (.getfield 302, 3)) hf (fun x118 hf => ?_)
      refine r_aload_n hB 0 rfl (by decide +kernel : decode cX11_showsGhost 121 = .ok (.aload_n 0, 1)) rfl ?_
      refine r_gR hB cf11 8 (by decide) (own := "PulseRemote") rfl (Or.inl k_473) (by decide +kernel) (by decide +kernel : decode cX11_showsGhost 122 = .ok (.getfield 55, 3)) hf (fun x122 hf => ?_)
      refine r_gI hB cf2 1 (by decide) (own := "PulseRemote") rfl (Or.inr ⟨_, k_299⟩) (by decide +kernel) (by decide +kernel : decode cX11_showsGhost 125 = .ok (.getfield 305, 3)) hf (fun x125 hf => ?_)
      refine r_cVi hB [.int x118, .int x125] [] cf8 (own := "PulseRemote") rfl cmX8_findButtonOf imX8_findButtonOf (Or.inl k_1056) (by decide) rfl rfl rfl (Nat.le_of_ble_eq_true rfl) (by decide +kernel : decode cX11_showsGhost 128 = .ok (.invokevirtual 332, 3)) (fun z hz => m_X8_findButtonOf _ _ _ _ hz) rfl hf (fun z128 hf => ?_)
      refine r_istore hB (by decide +kernel : decode cX11_showsGhost 131 = .ok (.istore 5, 2)) (by decide) rfl ?_
      refine ww_lv (lv' := [(5, .int z128.1), (0, .ref (b + l0)), (1, .int l1), (2, .int l2), (4, .int l4)]) rfl ?_
      refine r_iload hB 0 rfl (by decide +kernel : decode cX11_showsGhost 133 = .ok (.iload 5, 2)) ?_
      refine r_bipush hB (v := (-9)) (by decide +kernel : decode cX11_showsGhost 135 = .ok (.bipush (-9), 2)) (by decide +kernel) ?_
      refine r_icmp_eq hB (tgt := 154) (by decide +kernel : decode cX11_showsGhost 137 = .ok (.if_icmp .eq 17, 3)) (by decide) hf (fun _ hf => ?_) (fun _ hf => ?_)
      · exact WW.sub [1, 2, 3, 4] rfl (t_X11_showsGhost_154 hB hf hk)
      · refine r_iload hB 0 rfl (by decide +kernel : decode cX11_showsGhost 140 = .ok (.iload 5, 2)) ?_
        refine r_iload_n hB 2 rfl (by decide +kernel : decode cX11_showsGhost 142 = .ok (.iload_n 1, 1)) rfl ?_
        refine r_icmp_eq hB (tgt := 154) (by decide +kernel : decode cX11_showsGhost 143 = .ok (.if_icmp .eq 11, 3)) (by decide) hf (fun _ hf => ?_) (fun _ hf => ?_)
        · exact WW.sub [1, 2, 3, 4] rfl (t_X11_showsGhost_154 hB hf hk)
        · refine r_iload hB 0 rfl (by decide +kernel : decode cX11_showsGhost 146 = .ok (.iload 5, 2)) ?_
          refine r_iload_n hB 3 rfl (by decide +kernel : decode cX11_showsGhost 148 = .ok (.iload_n 2, 1)) rfl ?_
          refine r_icmp_eq hB (tgt := 154) (by decide +kernel : decode cX11_showsGhost 149 = .ok (.if_icmp .eq 5, 3)) (by decide) hf (fun _ hf => ?_) (fun _ hf => ?_)
          · exact WW.sub [1, 2, 3, 4] rfl (t_X11_showsGhost_154 hB hf hk)
          · obtain ⟨_, hx0, rfl⟩ := xr_inv hf
            exact WW.sub [] rfl (t_X11_showsGhost_152 hB hx0 hk)
set_option maxHeartbeats 4000000 in
set_option maxRecDepth 100000 in
theorem t_X11_showsGhost_58 {X : BX} {D : va_G} {cy : Nat → ClassId} {b : Nat} {r : Option Value} {μ' : MS} (hB : BB X D cy b yX11_showsGhost cX11_showsGhost 6 (some .boolean) rmX11_showsGhost) {l0 : Nat} {l1 : Int32} {l2 : Int32} {l4 : Int32} {μ : MS} {z : (Int32 × MS)} (hf : f_X11_showsGhost_58 l0 l1 l2 l4 μ = some z) (hk : (fun z : Int32 × MS => r = some (.int z.1) ∧ μ' = z.2) z) : WW X D cy b r μ' 6 0 0 58 [(0, .ref (b + l0)), (1, .int l1), (2, .int l2), (4, .int l4)] [] μ :=
  lp_ind (P := fun s : Nat × Int32 × Int32 × Int32 × MS => WW X D cy b r μ' 6 0 0 58 [(0, .ref (b + s.1)), (1, .int s.2.1), (2, .int s.2.2.1), (4, .int s.2.2.2.1)] [] s.2.2.2.2) (Q := (fun z : Int32 × MS => r = some (.int z.1) ∧ μ' = z.2)) (fun s z hz hk => t_X11_showsGhost_58_b hB hz hk) (l0, l1, l2, l4, μ) z hf hk
set_option maxHeartbeats 4000000 in
set_option maxRecDepth 100000 in
theorem t_X11_showsGhost_0 {X : BX} {D : va_G} {cy : Nat → ClassId} {b : Nat} {r : Option Value} {μ' : MS} (hB : BB X D cy b yX11_showsGhost cX11_showsGhost 6 (some .boolean) rmX11_showsGhost) {l0 : Nat} {l1 : Int32} {l2 : Int32} {l3 : Int32} {μ : MS} {z : (Int32 × MS)} (hf : f_X11_showsGhost l0 l1 l2 l3 μ = some z) (hk : (fun z : Int32 × MS => r = some (.int z.1) ∧ μ' = z.2) z) : WW X D cy b r μ' 6 0 0 0 [(0, .ref (b + l0)), (1, .int l1), (2, .int l2), (3, .int l3)] [] μ := by
  unfold f_X11_showsGhost at hf
  refine r_aload_n hB 0 rfl (by decide +kernel : decode cX11_showsGhost 0 = .ok (.aload_n 0, 1)) rfl ?_
  refine r_gR hB cf11 11 (by decide) (own := "PulseRemote") rfl (Or.inl k_476) (by decide +kernel) (by decide +kernel : decode cX11_showsGhost 1 = .ok (.getfield 76, 3)) hf (fun x1 hf => ?_)
  refine r_aload_n hB 0 rfl (by decide +kernel : decode cX11_showsGhost 4 = .ok (.aload_n 0, 1)) rfl ?_
  refine r_iload_n hB 1 rfl (by decide +kernel : decode cX11_showsGhost 5 = .ok (.iload_n 1, 1)) rfl ?_
  refine r_cVr hB [.int l1] [.ref (b + x1)] cf11 (own := "PulseRemote") rfl cmX11_buttonFrameAt imX11_buttonFrameAt (Or.inl k_1082) (by decide) rfl rfl rfl (Nat.le_of_ble_eq_true rfl) (by decide +kernel : decode cX11_showsGhost 6 = .ok (.invokevirtual 344, 3)) (fun z hz => m_X11_buttonFrameAt _ _ _ _ hz) rfl hf (fun z6 hf => ?_)
  refine r_aload_n hB 0 rfl (by decide +kernel : decode cX11_showsGhost 9 = .ok (.aload_n 0, 1)) rfl ?_
  refine r_iload_n hB 2 rfl (by decide +kernel : decode cX11_showsGhost 10 = .ok (.iload_n 2, 1)) rfl ?_
  refine r_cVr hB [.int l2] [.ref (b + z6.1), .ref (b + x1)] cf11 (own := "PulseRemote") rfl cmX11_buttonFrameAt imX11_buttonFrameAt (Or.inl k_1082) (by decide) rfl rfl rfl (Nat.le_of_ble_eq_true rfl) (by decide +kernel : decode cX11_showsGhost 11 = .ok (.invokevirtual 344, 3)) (fun z hz => m_X11_buttonFrameAt _ _ _ _ hz) rfl hf (fun z11 hf => ?_)
  refine r_cVv hB [.ref (b + z6.1), .ref (b + z11.1)] [] cf1 (own := "PulseRemote") rfl cmX1_lay imX1_lay (Or.inl k_901) (by decide) rfl rfl rfl (Nat.le_of_ble_eq_true rfl) (by decide +kernel : decode cX11_showsGhost 14 = .ok (.invokevirtual 263, 3)) (fun z hz => m_X1_lay _ _ _ _ hz) rfl hf (fun z14 hf => ?_)
  refine r_aload_n hB 0 rfl (by decide +kernel : decode cX11_showsGhost 17 = .ok (.aload_n 0, 1)) rfl ?_
  refine r_gR hB cf11 11 (by decide) (own := "PulseRemote") rfl (Or.inl k_476) (by decide +kernel) (by decide +kernel : decode cX11_showsGhost 18 = .ok (.getfield 76, 3)) hf (fun x18 hf => ?_)
  refine r_iload_n hB 3 rfl (by decide +kernel : decode cX11_showsGhost 21 = .ok (.iload_n 3, 1)) rfl ?_
  refine r_cVv hB [.int l3] [] cf1 (own := "PulseRemote") rfl cmX1_begin imX1_begin (Or.inl k_906) (by decide) rfl rfl rfl (Nat.le_of_ble_eq_true rfl) (by decide +kernel : decode cX11_showsGhost 22 = .ok (.invokevirtual 267, 3)) (fun z hz => m_X1_begin _ _ _ _ hz) rfl hf (fun z22 hf => ?_)
  refine r_aload_n hB 0 rfl (by decide +kernel : decode cX11_showsGhost 25 = .ok (.aload_n 0, 1)) rfl ?_
  refine r_gR hB cf11 11 (by decide) (own := "PulseRemote") rfl (Or.inl k_476) (by decide +kernel) (by decide +kernel : decode cX11_showsGhost 26 = .ok (.getfield 76, 3)) hf (fun x26 hf => ?_)
  refine r_aload_n hB 0 rfl (by decide +kernel : decode cX11_showsGhost 29 = .ok (.aload_n 0, 1)) rfl ?_
  refine r_gR hB cf11 5 (by decide) (own := "PulseRemote") rfl (Or.inl k_470) (by decide +kernel) (by decide +kernel : decode cX11_showsGhost 30 = .ok (.getfield 37, 3)) hf (fun x30 hf => ?_)
  refine r_cVi hB [.ref (b + x30)] [] cf1 (own := "PulseRemote") rfl cmX1_writeTo imX1_writeTo (Or.inl k_915) (by decide) rfl rfl rfl (Nat.le_of_ble_eq_true rfl) (by decide +kernel : decode cX11_showsGhost 33 = .ok (.invokevirtual 270, 3)) (fun z hz => m_X1_writeTo _ _ _ _ hz) rfl hf (fun z33 hf => ?_)
  refine r_pop hB (by decide +kernel : decode cX11_showsGhost 36 = .ok (.pop, 1)) rfl ?_
  refine r_aload_n hB 0 rfl (by decide +kernel : decode cX11_showsGhost 37 = .ok (.aload_n 0, 1)) rfl ?_
  refine r_gR hB cf11 7 (by decide) (own := "PulseRemote") rfl (Or.inl k_472) (by decide +kernel) (by decide +kernel : decode cX11_showsGhost 38 = .ok (.getfield 48, 3)) hf (fun x38 hf => ?_)
  refine r_aload_n hB 0 rfl (by decide +kernel : decode cX11_showsGhost 41 = .ok (.aload_n 0, 1)) rfl ?_
  refine r_gR hB cf11 5 (by decide) (own := "PulseRemote") rfl (Or.inl k_470) (by decide +kernel) (by decide +kernel : decode cX11_showsGhost 42 = .ok (.getfield 37, 3)) hf (fun x42 hf => ?_)
  refine r_aload_n hB 0 rfl (by decide +kernel : decode cX11_showsGhost 45 = .ok (.aload_n 0, 1)) rfl ?_
  refine r_gR hB cf11 0 (by decide) (own := "PulseRemote") rfl (Or.inl k_465) (by decide +kernel) (by decide +kernel : decode cX11_showsGhost 46 = .ok (.getfield 12, 3)) hf (fun x46 hf => ?_)
  refine r_gI hB cf7 2 (by decide) (own := "PulseRemote") rfl (Or.inr ⟨_, k_216⟩) (by decide +kernel) (by decide +kernel : decode cX11_showsGhost 49 = .ok (.getfield 163, 3)) hf (fun x49 hf => ?_)
  refine r_cVv hB [.ref (b + x42), .int x49] [] cf3 (own := "PulseRemote") rfl cmX3_split imX3_split (Or.inl k_597) (by decide) rfl rfl rfl (Nat.le_of_ble_eq_true rfl) (by decide +kernel : decode cX11_showsGhost 52 = .ok (.invokevirtual 166, 3)) (fun z hz => m_X3_split _ _ _ _ hz) rfl hf (fun z52 hf => ?_)
  refine r_iconst hB (v := 0) (by decide +kernel : decode cX11_showsGhost 55 = .ok (.iconst 0, 1)) (by decide +kernel) ?_
  refine r_istore hB (by decide +kernel : decode cX11_showsGhost 56 = .ok (.istore 4, 2)) (by decide) rfl ?_
  refine ww_lv (lv' := [(4, .int 0), (0, .ref (b + l0)), (1, .int l1), (2, .int l2), (3, .int l3)]) rfl ?_
  exact WW.sub [1, 2, 3, 0] rfl (t_X11_showsGhost_58 hB hf hk)
theorem m_X11_showsGhost (l : Launch) (D : va_G) (cy : Nat → ClassId) (b : Nat) {l0 : Nat} {l1 : Int32} {l2 : Int32} {l3 : Int32} {μ : MS} {z : Int32 × MS} (hf : f_X11_showsGhost l0 l1 l2 l3 μ = some z) : Met l yX11_showsGhost (.code yX11_showsGhost cX11_showsGhost 6 (some .boolean) :: GW) rmX11_showsGhost (Pw D cy b [.ref (b + l0), .int l1, .int l2, .int l3] μ) (Qw D cy b (some (.int z.1)) (z.2)) rmX11_showsGhost.cells rmX11_showsGhost.slots (fun q => b ≤ q) :=
  met_of (by decide) (Nat.le_of_ble_eq_true rfl) (fun X hB _ => (t_X11_showsGhost_0 hB hf ⟨rfl, rfl⟩))
-- PulseRemote.ghosts(I)I
set_option maxHeartbeats 4000000 in
set_option maxRecDepth 100000 in
theorem t_X11_ghosts_75 {X : BX} {D : va_G} {cy : Nat → ClassId} {b : Nat} {r : Option Value} {μ' : MS} (hB : BB X D cy b yX11_ghosts cX11_ghosts 6 (some .int) rmX11_ghosts) {l3 : Int32} {μ : MS} {z : (Int32 × MS)} (hf : f_X11_ghosts_75 l3 μ = some z) (hk : (fun z : Int32 × MS => r = some (.int z.1) ∧ μ' = z.2) z) : WW X D cy b r μ' 6 0 0 75 [(3, .int l3)] [] μ := by
  unfold f_X11_ghosts_75 at hf
  refine r_iload_n hB 0 rfl (by decide +kernel : decode cX11_ghosts 75 = .ok (.iload_n 3, 1)) rfl ?_
  obtain rfl := Option.some.inj hf
  obtain ⟨rfl, rfl⟩ := hk
  exact r_iret hB (by decide +kernel : decode cX11_ghosts 76 = .ok (.ireturn, 1))
set_option maxHeartbeats 4000000 in
set_option maxRecDepth 100000 in
theorem t_X11_ghosts_69 {X : BX} {D : va_G} {cy : Nat → ClassId} {b : Nat} {r : Option Value} {μ' : MS} (hB : BB X D cy b yX11_ghosts cX11_ghosts 6 (some .int) rmX11_ghosts) {l0 : Nat} {l1 : Int32} {l2 : Int32} {l3 : Int32} {l4 : Int32} {μ : MS} {z : ((Nat × Int32 × Int32 × Int32 × Int32 × MS) ⊕ (Int32 × MS))} (hf : f_X11_ghosts_69 l0 l1 l2 l3 l4 μ = some z) (hk : (Sum.elim (fun s : Nat × Int32 × Int32 × Int32 × Int32 × MS => WW X D cy b r μ' 6 0 0 32 [(0, .ref (b + s.1)), (1, .int s.2.1), (2, .int s.2.2.1), (3, .int s.2.2.2.1), (4, .int s.2.2.2.2.1)] [] s.2.2.2.2.2) (fun z : Int32 × MS => r = some (.int z.1) ∧ μ' = z.2)) z) : WW X D cy b r μ' 6 0 0 69 [(0, .ref (b + l0)), (1, .int l1), (2, .int l2), (3, .int l3), (4, .int l4)] [] μ := by
  unfold f_X11_ghosts_69 at hf
  refine r_iincB hB 4 rfl (by decide +kernel : decode cX11_ghosts 69 = .ok (.iinc 4 1, 3)) (w := 1) (by decide +kernel) (by decide) hf (fun v69 hf => ?_)
  refine ww_lv (lv' := [(4, .int v69), (0, .ref (b + l0)), (1, .int l1), (2, .int l2), (3, .int l3)]) rfl ?_
  refine r_goto hB (tgt := 32) (by decide +kernel : decode cX11_ghosts 72 = .ok (.goto (-40), 3)) (by decide) ?_
  obtain rfl := Option.some.inj hf
  exact WW.sub [1, 2, 3, 4, 0] rfl hk
set_option maxHeartbeats 4000000 in
set_option maxRecDepth 100000 in
theorem t_X11_ghosts_63 {X : BX} {D : va_G} {cy : Nat → ClassId} {b : Nat} {r : Option Value} {μ' : MS} (hB : BB X D cy b yX11_ghosts cX11_ghosts 6 (some .int) rmX11_ghosts) {l0 : Nat} {l1 : Int32} {l2 : Int32} {l3 : Int32} {l4 : Int32} {l5 : Int32} {μ : MS} {z : ((Nat × Int32 × Int32 × Int32 × Int32 × Int32 × MS) ⊕ ((Nat × Int32 × Int32 × Int32 × Int32 × MS) ⊕ (Int32 × MS)))} (hf : f_X11_ghosts_63 l0 l1 l2 l3 l4 l5 μ = some z) (hk : (Sum.elim (fun s : Nat × Int32 × Int32 × Int32 × Int32 × Int32 × MS => WW X D cy b r μ' 6 0 0 42 [(0, .ref (b + s.1)), (1, .int s.2.1), (2, .int s.2.2.1), (3, .int s.2.2.2.1), (4, .int s.2.2.2.2.1), (5, .int s.2.2.2.2.2.1)] [] s.2.2.2.2.2.2) (Sum.elim (fun s : Nat × Int32 × Int32 × Int32 × Int32 × MS => WW X D cy b r μ' 6 0 0 32 [(0, .ref (b + s.1)), (1, .int s.2.1), (2, .int s.2.2.1), (3, .int s.2.2.2.1), (4, .int s.2.2.2.2.1)] [] s.2.2.2.2.2) (fun z : Int32 × MS => r = some (.int z.1) ∧ μ' = z.2))) z) : WW X D cy b r μ' 6 0 0 63 [(0, .ref (b + l0)), (1, .int l1), (2, .int l2), (3, .int l3), (4, .int l4), (5, .int l5)] [] μ := by
  unfold f_X11_ghosts_63 at hf
  refine r_iincB hB 5 rfl (by decide +kernel : decode cX11_ghosts 63 = .ok (.iinc 5 1, 3)) (w := 1) (by decide +kernel) (by decide) hf (fun v63 hf => ?_)
  refine ww_lv (lv' := [(5, .int v63), (0, .ref (b + l0)), (1, .int l1), (2, .int l2), (3, .int l3), (4, .int l4)]) rfl ?_
  refine r_goto hB (tgt := 42) (by decide +kernel : decode cX11_ghosts 66 = .ok (.goto (-24), 3)) (by decide) ?_
  obtain rfl := Option.some.inj hf
  exact WW.sub [1, 2, 3, 4, 5, 0] rfl hk
set_option maxHeartbeats 4000000 in
set_option maxRecDepth 100000 in
theorem t_X11_ghosts_42_b {X : BX} {D : va_G} {cy : Nat → ClassId} {b : Nat} {r : Option Value} {μ' : MS} (hB : BB X D cy b yX11_ghosts cX11_ghosts 6 (some .int) rmX11_ghosts) {l0 : Nat} {l1 : Int32} {l2 : Int32} {l3 : Int32} {l4 : Int32} {l5 : Int32} {μ : MS} {z : ((Nat × Int32 × Int32 × Int32 × Int32 × Int32 × MS) ⊕ ((Nat × Int32 × Int32 × Int32 × Int32 × MS) ⊕ (Int32 × MS)))} (hf : f_X11_ghosts_42_b l0 l1 l2 l3 l4 l5 μ = some z) (hk : (Sum.elim (fun s : Nat × Int32 × Int32 × Int32 × Int32 × Int32 × MS => WW X D cy b r μ' 6 0 0 42 [(0, .ref (b + s.1)), (1, .int s.2.1), (2, .int s.2.2.1), (3, .int s.2.2.2.1), (4, .int s.2.2.2.2.1), (5, .int s.2.2.2.2.2.1)] [] s.2.2.2.2.2.2) (Sum.elim (fun s : Nat × Int32 × Int32 × Int32 × Int32 × MS => WW X D cy b r μ' 6 0 0 32 [(0, .ref (b + s.1)), (1, .int s.2.1), (2, .int s.2.2.1), (3, .int s.2.2.2.1), (4, .int s.2.2.2.2.1)] [] s.2.2.2.2.2) (fun z : Int32 × MS => r = some (.int z.1) ∧ μ' = z.2))) z) : WW X D cy b r μ' 6 0 0 42 [(0, .ref (b + l0)), (1, .int l1), (2, .int l2), (3, .int l3), (4, .int l4), (5, .int l5)] [] μ := by
  unfold f_X11_ghosts_42_b at hf
  refine r_iload hB 5 rfl (by decide +kernel : decode cX11_ghosts 42 = .ok (.iload 5, 2)) ?_
  refine r_iload_n hB 2 rfl (by decide +kernel : decode cX11_ghosts 44 = .ok (.iload_n 2, 1)) rfl ?_
  refine r_icmp_ge hB (tgt := 69) (by decide +kernel : decode cX11_ghosts 45 = .ok (.if_icmp .ge 24, 3)) (by decide) hf (fun _ hf => ?_) (fun _ hf => ?_)
  · obtain ⟨_, hx0, rfl⟩ := xr_inv hf
    exact WW.sub [0, 1, 2, 3, 4] rfl (t_X11_ghosts_69 hB hx0 hk)
  · refine r_aload_n hB 0 rfl (by decide +kernel : decode cX11_ghosts 48 = .ok (.aload_n 0, 1)) rfl ?_
    refine r_iload hB 4 rfl (by decide +kernel : decode cX11_ghosts 49 = .ok (.iload 4, 2)) ?_
    refine r_iload hB 5 rfl (by decide +kernel : decode cX11_ghosts 51 = .ok (.iload 5, 2)) ?_
    refine r_iload_n hB 1 rfl (by decide +kernel : decode cX11_ghosts 53 = .ok (.iload_n 1, 1)) rfl ?_
    refine r_cVi hB [.int l4, .int l5, .int l1] [] cf11 (own := "PulseRemote") rfl cmX11_showsGhost imX11_showsGhost (Or.inl k_1100) (by decide) rfl rfl rfl (Nat.le_of_ble_eq_true rfl) (by decide +kernel : decode cX11_ghosts 54 = .ok (.invokevirtual 351, 3)) (fun z hz => m_X11_showsGhost _ _ _ _ hz) rfl hf (fun z54 hf => ?_)
    refine r_if_eq hB (tgt := 63) (by decide +kernel : decode cX11_ghosts 57 = .ok (.ifCond .eq 6, 3)) (by decide) hf (fun _ hf => ?_) (fun _ hf => ?_)
    · exact WW.sub [0, 1, 2, 3, 4, 5] rfl (t_X11_ghosts_63 hB hf hk)
    · refine r_iincB hB 3 rfl (by decide +kernel : decode cX11_ghosts 60 = .ok (.iinc 3 1, 3)) (w := 1) (by decide +kernel) (by decide) hf (fun v60 hf => ?_)
      refine ww_lv (lv' := [(3, .int v60), (0, .ref (b + l0)), (1, .int l1), (2, .int l2), (4, .int l4), (5, .int l5)]) rfl ?_
      exact WW.sub [1, 2, 3, 0, 4, 5] rfl (t_X11_ghosts_63 hB hf hk)
set_option maxHeartbeats 4000000 in
set_option maxRecDepth 100000 in
theorem t_X11_ghosts_42 {X : BX} {D : va_G} {cy : Nat → ClassId} {b : Nat} {r : Option Value} {μ' : MS} (hB : BB X D cy b yX11_ghosts cX11_ghosts 6 (some .int) rmX11_ghosts) {l0 : Nat} {l1 : Int32} {l2 : Int32} {l3 : Int32} {l4 : Int32} {l5 : Int32} {μ : MS} {z : ((Nat × Int32 × Int32 × Int32 × Int32 × MS) ⊕ (Int32 × MS))} (hf : f_X11_ghosts_42 l0 l1 l2 l3 l4 l5 μ = some z) (hk : (Sum.elim (fun s : Nat × Int32 × Int32 × Int32 × Int32 × MS => WW X D cy b r μ' 6 0 0 32 [(0, .ref (b + s.1)), (1, .int s.2.1), (2, .int s.2.2.1), (3, .int s.2.2.2.1), (4, .int s.2.2.2.2.1)] [] s.2.2.2.2.2) (fun z : Int32 × MS => r = some (.int z.1) ∧ μ' = z.2)) z) : WW X D cy b r μ' 6 0 0 42 [(0, .ref (b + l0)), (1, .int l1), (2, .int l2), (3, .int l3), (4, .int l4), (5, .int l5)] [] μ :=
  lp_ind (P := fun s : Nat × Int32 × Int32 × Int32 × Int32 × Int32 × MS => WW X D cy b r μ' 6 0 0 42 [(0, .ref (b + s.1)), (1, .int s.2.1), (2, .int s.2.2.1), (3, .int s.2.2.2.1), (4, .int s.2.2.2.2.1), (5, .int s.2.2.2.2.2.1)] [] s.2.2.2.2.2.2) (Q := (Sum.elim (fun s : Nat × Int32 × Int32 × Int32 × Int32 × MS => WW X D cy b r μ' 6 0 0 32 [(0, .ref (b + s.1)), (1, .int s.2.1), (2, .int s.2.2.1), (3, .int s.2.2.2.1), (4, .int s.2.2.2.2.1)] [] s.2.2.2.2.2) (fun z : Int32 × MS => r = some (.int z.1) ∧ μ' = z.2))) (fun s z hz hk => t_X11_ghosts_42_b hB hz hk) (l0, l1, l2, l3, l4, l5, μ) z hf hk
set_option maxHeartbeats 4000000 in
set_option maxRecDepth 100000 in
theorem t_X11_ghosts_32_b {X : BX} {D : va_G} {cy : Nat → ClassId} {b : Nat} {r : Option Value} {μ' : MS} (hB : BB X D cy b yX11_ghosts cX11_ghosts 6 (some .int) rmX11_ghosts) {l0 : Nat} {l1 : Int32} {l2 : Int32} {l3 : Int32} {l4 : Int32} {μ : MS} {z : ((Nat × Int32 × Int32 × Int32 × Int32 × MS) ⊕ (Int32 × MS))} (hf : f_X11_ghosts_32_b l0 l1 l2 l3 l4 μ = some z) (hk : (Sum.elim (fun s : Nat × Int32 × Int32 × Int32 × Int32 × MS => WW X D cy b r μ' 6 0 0 32 [(0, .ref (b + s.1)), (1, .int s.2.1), (2, .int s.2.2.1), (3, .int s.2.2.2.1), (4, .int s.2.2.2.2.1)] [] s.2.2.2.2.2) (fun z : Int32 × MS => r = some (.int z.1) ∧ μ' = z.2)) z) : WW X D cy b r μ' 6 0 0 32 [(0, .ref (b + l0)), (1, .int l1), (2, .int l2), (3, .int l3), (4, .int l4)] [] μ := by
  unfold f_X11_ghosts_32_b at hf
  refine r_iload hB 4 rfl (by decide +kernel : decode cX11_ghosts 32 = .ok (.iload 4, 2)) ?_
  refine r_iload_n hB 2 rfl (by decide +kernel : decode cX11_ghosts 34 = .ok (.iload_n 2, 1)) rfl ?_
  refine r_icmp_ge hB (tgt := 75) (by decide +kernel : decode cX11_ghosts 35 = .ok (.if_icmp .ge 40, 3)) (by decide) hf (fun _ hf => ?_) (fun _ hf => ?_)
  · obtain ⟨_, hx0, rfl⟩ := xr_inv hf
    exact WW.sub [3] rfl (t_X11_ghosts_75 hB hx0 hk)
  · refine r_iload hB 4 rfl (by decide +kernel : decode cX11_ghosts 38 = .ok (.iload 4, 2)) ?_
    refine r_istore hB (by decide +kernel : decode cX11_ghosts 40 = .ok (.istore 5, 2)) (by decide) rfl ?_
    refine ww_lv (lv' := [(5, .int l4), (0, .ref (b + l0)), (1, .int l1), (2, .int l2), (3, .int l3), (4, .int l4)]) rfl ?_
    exact WW.sub [1, 2, 3, 4, 5, 0] rfl (t_X11_ghosts_42 hB hf hk)
set_option maxHeartbeats 4000000 in
set_option maxRecDepth 100000 in
theorem t_X11_ghosts_32 {X : BX} {D : va_G} {cy : Nat → ClassId} {b : Nat} {r : Option Value} {μ' : MS} (hB : BB X D cy b yX11_ghosts cX11_ghosts 6 (some .int) rmX11_ghosts) {l0 : Nat} {l1 : Int32} {l2 : Int32} {l3 : Int32} {l4 : Int32} {μ : MS} {z : (Int32 × MS)} (hf : f_X11_ghosts_32 l0 l1 l2 l3 l4 μ = some z) (hk : (fun z : Int32 × MS => r = some (.int z.1) ∧ μ' = z.2) z) : WW X D cy b r μ' 6 0 0 32 [(0, .ref (b + l0)), (1, .int l1), (2, .int l2), (3, .int l3), (4, .int l4)] [] μ :=
  lp_ind (P := fun s : Nat × Int32 × Int32 × Int32 × Int32 × MS => WW X D cy b r μ' 6 0 0 32 [(0, .ref (b + s.1)), (1, .int s.2.1), (2, .int s.2.2.1), (3, .int s.2.2.2.1), (4, .int s.2.2.2.2.1)] [] s.2.2.2.2.2) (Q := (fun z : Int32 × MS => r = some (.int z.1) ∧ μ' = z.2)) (fun s z hz hk => t_X11_ghosts_32_b hB hz hk) (l0, l1, l2, l3, l4, μ) z hf hk
set_option maxHeartbeats 4000000 in
set_option maxRecDepth 100000 in
theorem t_X11_ghosts_0 {X : BX} {D : va_G} {cy : Nat → ClassId} {b : Nat} {r : Option Value} {μ' : MS} (hB : BB X D cy b yX11_ghosts cX11_ghosts 6 (some .int) rmX11_ghosts) {l0 : Nat} {l1 : Int32} {μ : MS} {z : (Int32 × MS)} (hf : f_X11_ghosts l0 l1 μ = some z) (hk : (fun z : Int32 × MS => r = some (.int z.1) ∧ μ' = z.2) z) : WW X D cy b r μ' 6 0 0 0 [(0, .ref (b + l0)), (1, .int l1)] [] μ := by
  unfold f_X11_ghosts at hf
  refine r_iload_n hB 1 rfl (by decide +kernel : decode cX11_ghosts 0 = .ok (.iload_n 1, 1)) rfl ?_
  refine r_iconst hB (v := 0) (by decide +kernel : decode cX11_ghosts 1 = .ok (.iconst 0, 1)) (by decide +kernel) ?_
  refine r_ldc hB (v := 60000) (own := "PulseRemote") rfl k_720 (by decide +kernel : decode cX11_ghosts 2 = .ok (.ldc 222, 2)) ?_
  refine r_cSi hB [.int l1, .int 0, .int 60000] [] (own := "PulseRemote") rfl cmX11_inRange smX11_inRange (Or.inl ⟨rfl, k_506⟩) (by decide) rfl rfl rfl (Nat.le_of_ble_eq_true rfl) (by decide +kernel : decode cX11_ghosts 4 = .ok (.invokestatic 80, 3)) (fun z hz => m_X11_inRange _ _ _ _ hz) rfl hf (fun z4 hf => ?_)
  refine r_if_ne hB (tgt := 12) (by decide +kernel : decode cX11_ghosts 7 = .ok (.ifCond .ne 5, 3)) (by decide) hf (fun _ hf => ?_) (fun _ hf => ?_)
  · refine r_iconst hB (v := (-1)) (by decide +kernel : decode cX11_ghosts 10 = .ok (.iconst (-1), 1)) (by decide +kernel) ?_
    obtain rfl := Option.some.inj hf
    obtain ⟨rfl, rfl⟩ := hk
    exact r_iret hB (by decide +kernel : decode cX11_ghosts 11 = .ok (.ireturn, 1))
  · refine r_aload_n hB 0 rfl (by decide +kernel : decode cX11_ghosts 12 = .ok (.aload_n 0, 1)) rfl ?_
    refine r_gR hB cf11 0 (by decide) (own := "PulseRemote") rfl (Or.inl k_465) (by decide +kernel) (by decide +kernel : decode cX11_ghosts 13 = .ok (.getfield 12, 3)) hf (fun x13 hf => ?_)
    refine r_gR hB cf7 0 (by decide) (own := "PulseRemote") rfl (Or.inr ⟨_, k_212⟩) (by decide +kernel) (by decide +kernel : decode cX11_ghosts 16 = .ok (.getfield 84, 3)) hf (fun x16 hf => ?_)
    refine r_gI hB cf8 4 (by decide) (own := "PulseRemote") rfl (Or.inr ⟨_, k_179⟩) (by decide +kernel) (by decide +kernel : decode cX11_ghosts 19 = .ok (.getfield 147, 3)) hf (fun x19 hf => ?_)
    refine r_istore_n hB (by decide +kernel : decode cX11_ghosts 22 = .ok (.istore_n 2, 1)) rfl (by decide) rfl ?_
    refine ww_lv (lv' := [(2, .int x19), (0, .ref (b + l0)), (1, .int l1)]) rfl ?_
    refine r_iconst hB (v := 0) (by decide +kernel : decode cX11_ghosts 23 = .ok (.iconst 0, 1)) (by decide +kernel) ?_
    refine r_istore_n hB (by decide +kernel : decode cX11_ghosts 24 = .ok (.istore_n 3, 1)) rfl (by decide) rfl ?_
    refine ww_lv (lv' := [(3, .int 0), (2, .int x19), (0, .ref (b + l0)), (1, .int l1)]) rfl ?_
    refine r_aload_n hB 2 rfl (by decide +kernel : decode cX11_ghosts 25 = .ok (.aload_n 0, 1)) rfl ?_
    refine r_cVv hB [] [] cf11 (own := "PulseRemote") rfl cmX11_writeButtonFrames imX11_writeButtonFrames (Or.inl k_1078) (by decide) rfl rfl rfl (Nat.le_of_ble_eq_true rfl) (by decide +kernel : decode cX11_ghosts 26 = .ok (.invokevirtual 341, 3)) (fun z hz => m_X11_writeButtonFrames _ _ _ _ hz) rfl hf (fun z26 hf => ?_)
    refine r_iconst hB (v := 0) (by decide +kernel : decode cX11_ghosts 29 = .ok (.iconst 0, 1)) (by decide +kernel) ?_
    refine r_istore hB (by decide +kernel : decode cX11_ghosts 30 = .ok (.istore 4, 2)) (by decide) rfl ?_
    refine ww_lv (lv' := [(4, .int 0), (3, .int 0), (2, .int x19), (0, .ref (b + l0)), (1, .int l1)]) rfl ?_
    exact WW.sub [3, 4, 2, 1, 0] rfl (t_X11_ghosts_32 hB hf hk)
theorem m_X11_ghosts (l : Launch) (D : va_G) (cy : Nat → ClassId) (b : Nat) {l0 : Nat} {l1 : Int32} {μ : MS} {z : Int32 × MS} (hf : f_X11_ghosts l0 l1 μ = some z) : Met l yX11_ghosts (.code yX11_ghosts cX11_ghosts 6 (some .int) :: GW) rmX11_ghosts (Pw D cy b [.ref (b + l0), .int l1] μ) (Qw D cy b (some (.int z.1)) (z.2)) rmX11_ghosts.cells rmX11_ghosts.slots (fun q => b ≤ q) :=
  met_of (by decide) (Nat.le_of_ble_eq_true rfl) (fun X hB _ => (t_X11_ghosts_0 hB hf ⟨rfl, rfl⟩))
-- PulseRemote.undo()I
set_option maxHeartbeats 4000000 in
set_option maxRecDepth 100000 in
theorem t_X11_undo_0 {X : BX} {D : va_G} {cy : Nat → ClassId} {b : Nat} {r : Option Value} {μ' : MS} (hB : BB X D cy b yX11_undo cX11_undo 2 (some .int) rmX11_undo) {l0 : Nat} {μ : MS} {z : (Int32 × MS)} (hf : f_X11_undo l0 μ = some z) (hk : (fun z : Int32 × MS => r = some (.int z.1) ∧ μ' = z.2) z) : WW X D cy b r μ' 2 0 0 0 [(0, .ref (b + l0))] [] μ := by
  unfold f_X11_undo at hf
  refine r_aload_n hB 0 rfl (by decide +kernel : decode cX11_undo 0 = .ok (.aload_n 0, 1)) rfl ?_
  refine r_gI hB cf11 2 (by decide) (own := "PulseRemote") rfl (Or.inl k_467) (by decide +kernel) (by decide +kernel : decode cX11_undo 1 = .ok (.getfield 153, 3)) hf (fun x1 hf => ?_)
  refine r_if_gt hB (tgt := 10) (by decide +kernel : decode cX11_undo 4 = .ok (.ifCond .gt 6, 3)) (by decide) hf (fun _ hf => ?_) (fun _ hf => ?_)
  · refine r_aload_n hB 0 rfl (by decide +kernel : decode cX11_undo 10 = .ok (.aload_n 0, 1)) rfl ?_
    refine r_dup hB (by decide +kernel : decode cX11_undo 11 = .ok (.dup, 1)) rfl ?_
    refine r_gI hB cf11 2 (by decide) (own := "PulseRemote") rfl (Or.inl k_467) (by decide +kernel) (by decide +kernel : decode cX11_undo 12 = .ok (.getfield 153, 3)) hf (fun x12 hf => ?_)
    refine r_iconst hB (v := 1) (by decide +kernel : decode cX11_undo 15 = .ok (.iconst 1, 1)) (by decide +kernel) ?_
    refine r_isub hB (by decide +kernel : decode cX11_undo 16 = .ok (.isub, 1)) ?_
    refine r_pI hB cf11 2 (by decide) (own := "PulseRemote") rfl (Or.inl k_467) (Or.inl rfl) rfl (by decide +kernel : decode cX11_undo 17 = .ok (.putfield 153, 3)) hf (fun m17 hf => ?_)
    refine r_aload_n hB 0 rfl (by decide +kernel : decode cX11_undo 20 = .ok (.aload_n 0, 1)) rfl ?_
    refine r_gR hB cf11 0 (by decide) (own := "PulseRemote") rfl (Or.inl k_465) (by decide +kernel) (by decide +kernel : decode cX11_undo 21 = .ok (.getfield 12, 3)) hf (fun x21 hf => ?_)
    refine r_astore_n hB (by decide +kernel : decode cX11_undo 24 = .ok (.astore_n 1, 1)) rfl (by decide) rfl ?_
    refine ww_lv (lv' := [(1, .ref (b + x21)), (0, .ref (b + l0))]) rfl ?_
    refine r_aload_n hB 1 rfl (by decide +kernel : decode cX11_undo 25 = .ok (.aload_n 0, 1)) rfl ?_
    refine r_aload_n hB 1 rfl (by decide +kernel : decode cX11_undo 26 = .ok (.aload_n 0, 1)) rfl ?_
    refine r_gR hB cf11 1 (by decide) (own := "PulseRemote") rfl (Or.inl k_466) (by decide +kernel) (by decide +kernel : decode cX11_undo 27 = .ok (.getfield 16, 3)) hf (fun x27 hf => ?_)
    refine r_aload_n hB 1 rfl (by decide +kernel : decode cX11_undo 30 = .ok (.aload_n 0, 1)) rfl ?_
    refine r_gI hB cf11 2 (by decide) (own := "PulseRemote") rfl (Or.inl k_467) (by decide +kernel) (by decide +kernel : decode cX11_undo 31 = .ok (.getfield 153, 3)) hf (fun x31 hf => ?_)
    refine r_aald hB (t := 19) (C := RX7) (Or.inr (Or.inl ⟨rfl, rfl⟩)) (by decide +kernel : decode cX11_undo 34 = .ok (.aaload, 1)) hf (fun x34 hf => ?_)
    refine r_pR hB cf11 0 (by decide) (own := "PulseRemote") rfl (Or.inl k_465) (Or.inl rfl) (by decide +kernel) (by decide +kernel : decode cX11_undo 35 = .ok (.putfield 12, 3)) hf (fun m35 hf => ?_)
    refine r_aload_n hB 1 rfl (by decide +kernel : decode cX11_undo 38 = .ok (.aload_n 0, 1)) rfl ?_
    refine r_gR hB cf11 1 (by decide) (own := "PulseRemote") rfl (Or.inl k_466) (by decide +kernel) (by decide +kernel : decode cX11_undo 39 = .ok (.getfield 16, 3)) hf (fun x39 hf => ?_)
    refine r_aload_n hB 1 rfl (by decide +kernel : decode cX11_undo 42 = .ok (.aload_n 0, 1)) rfl ?_
    refine r_gI hB cf11 2 (by decide) (own := "PulseRemote") rfl (Or.inl k_467) (by decide +kernel) (by decide +kernel : decode cX11_undo 43 = .ok (.getfield 153, 3)) hf (fun x43 hf => ?_)
    refine r_aload_n hB 0 rfl (by decide +kernel : decode cX11_undo 46 = .ok (.aload_n 1, 1)) rfl ?_
    refine r_aast hB (t := 19) (C := RX7) cf7 (Or.inr (Or.inl ⟨rfl, rfl⟩)) (by decide +kernel : decode cX11_undo 47 = .ok (.aastore, 1)) hf (fun m47 hf => ?_)
    refine r_aload_n hB 1 rfl (by decide +kernel : decode cX11_undo 48 = .ok (.aload_n 0, 1)) rfl ?_
    refine r_gI hB cf11 2 (by decide) (own := "PulseRemote") rfl (Or.inl k_467) (by decide +kernel) (by decide +kernel : decode cX11_undo 49 = .ok (.getfield 153, 3)) hf (fun x49 hf => ?_)
    obtain rfl := Option.some.inj hf
    obtain ⟨rfl, rfl⟩ := hk
    exact r_iret hB (by decide +kernel : decode cX11_undo 52 = .ok (.ireturn, 1))
  · refine r_bipush hB (v := (-2)) (by decide +kernel : decode cX11_undo 7 = .ok (.bipush (-2), 2)) (by decide +kernel) ?_
    obtain rfl := Option.some.inj hf
    obtain ⟨rfl, rfl⟩ := hk
    exact r_iret hB (by decide +kernel : decode cX11_undo 9 = .ok (.ireturn, 1))
theorem m_X11_undo (l : Launch) (D : va_G) (cy : Nat → ClassId) (b : Nat) {l0 : Nat} {μ : MS} {z : Int32 × MS} (hf : f_X11_undo l0 μ = some z) : Met l yX11_undo (.code yX11_undo cX11_undo 2 (some .int) :: GW) rmX11_undo (Pw D cy b [.ref (b + l0)] μ) (Qw D cy b (some (.int z.1)) (z.2)) rmX11_undo.cells rmX11_undo.slots (fun q => b ≤ q) :=
  met_of (by decide) (Nat.le_of_ble_eq_true rfl) (fun X hB _ => (t_X11_undo_0 hB hf ⟨rfl, rfl⟩))
-- PulseRemoteModel.in(III)Z
set_option maxHeartbeats 4000000 in
set_option maxRecDepth 100000 in
theorem t_X12_in_0 {X : BX} {D : va_G} {cy : Nat → ClassId} {b : Nat} {r : Option Value} {μ' : MS} (hB : BB X D cy b yX12_in cX12_in 3 (some .boolean) rmX12_in) {l0 : Int32} {l1 : Int32} {l2 : Int32} {μ : MS} {z : (Int32 × MS)} (hf : f_X12_in l0 l1 l2 μ = some z) (hk : (fun z : Int32 × MS => r = some (.int z.1) ∧ μ' = z.2) z) : WW X D cy b r μ' 3 0 0 0 [(0, .int l0), (1, .int l1), (2, .int l2)] [] μ := by
  unfold f_X12_in at hf
  refine r_iload_n hB 0 rfl (by decide +kernel : decode cX12_in 0 = .ok (.iload_n 0, 1)) rfl ?_
  refine r_iload_n hB 1 rfl (by decide +kernel : decode cX12_in 1 = .ok (.iload_n 1, 1)) rfl ?_
  refine r_icmp_lt hB (tgt := 14) (by decide +kernel : decode cX12_in 2 = .ok (.if_icmp .lt 12, 3)) (by decide) hf (fun _ hf => ?_) (fun _ hf => ?_)
  · refine r_iconst hB (v := 0) (by decide +kernel : decode cX12_in 14 = .ok (.iconst 0, 1)) (by decide +kernel) ?_
    obtain rfl := Option.some.inj hf
    obtain ⟨rfl, rfl⟩ := hk
    exact r_zret hB (Or.inl rfl) (by decide +kernel : decode cX12_in 15 = .ok (.ireturn, 1))
  · refine r_iload_n hB 0 rfl (by decide +kernel : decode cX12_in 5 = .ok (.iload_n 0, 1)) rfl ?_
    refine r_iload_n hB 2 rfl (by decide +kernel : decode cX12_in 6 = .ok (.iload_n 2, 1)) rfl ?_
    refine r_icmp_gt hB (tgt := 14) (by decide +kernel : decode cX12_in 7 = .ok (.if_icmp .gt 7, 3)) (by decide) hf (fun _ hf => ?_) (fun _ hf => ?_)
    · refine r_iconst hB (v := 0) (by decide +kernel : decode cX12_in 14 = .ok (.iconst 0, 1)) (by decide +kernel) ?_
      obtain rfl := Option.some.inj hf
      obtain ⟨rfl, rfl⟩ := hk
      exact r_zret hB (Or.inl rfl) (by decide +kernel : decode cX12_in 15 = .ok (.ireturn, 1))
    · refine r_iconst hB (v := 1) (by decide +kernel : decode cX12_in 10 = .ok (.iconst 1, 1)) (by decide +kernel) ?_
      refine r_goto hB (tgt := 15) (by decide +kernel : decode cX12_in 11 = .ok (.goto 4, 3)) (by decide) ?_
      obtain rfl := Option.some.inj hf
      obtain ⟨rfl, rfl⟩ := hk
      exact r_zret hB (Or.inr rfl) (by decide +kernel : decode cX12_in 15 = .ok (.ireturn, 1))
theorem m_X12_in (l : Launch) (D : va_G) (cy : Nat → ClassId) (b : Nat) {l0 : Int32} {l1 : Int32} {l2 : Int32} {μ : MS} {z : Int32 × MS} (hf : f_X12_in l0 l1 l2 μ = some z) : Met l yX12_in (.code yX12_in cX12_in 3 (some .boolean) :: GW) rmX12_in (Pw D cy b [.int l0, .int l1, .int l2] μ) (Qw D cy b (some (.int z.1)) (z.2)) rmX12_in.cells rmX12_in.slots (fun q => b ≤ q) :=
  met_of (by decide) (Nat.le_of_ble_eq_true rfl) (fun X hB _ => (t_X12_in_0 hB hf ⟨rfl, rfl⟩))
-- PulseRemoteModel.note()V
set_option maxHeartbeats 4000000 in
set_option maxRecDepth 100000 in
theorem t_X12_note_86 {X : BX} {D : va_G} {cy : Nat → ClassId} {b : Nat} {r : Option Value} {μ' : MS} (hB : BB X D cy b yX12_note cX12_note 2 none rmX12_note) {l0 : Nat} {μ : MS} {z : MS} (hf : f_X12_note_86 l0 μ = some z) (hk : (fun z : MS => r = none ∧ μ' = z) z) : WW X D cy b r μ' 2 0 0 86 [(0, .ref (b + l0))] [] μ := by
  unfold f_X12_note_86 at hf
  refine r_aload_n hB 0 rfl (by decide +kernel : decode cX12_note 86 = .ok (.aload_n 0, 1)) rfl ?_
  refine r_dup hB (by decide +kernel : decode cX12_note 87 = .ok (.dup, 1)) rfl ?_
  refine r_gI hB cf12 2 (by decide) (own := "PulseRemoteModel") rfl (Or.inl k_1117) (by decide +kernel) (by decide +kernel : decode cX12_note 88 = .ok (.getfield 64, 3)) hf (fun x88 hf => ?_)
  refine r_iconst hB (v := 1) (by decide +kernel : decode cX12_note 91 = .ok (.iconst 1, 1)) (by decide +kernel) ?_
  refine r_iadd hB (by decide +kernel : decode cX12_note 92 = .ok (.iadd, 1)) ?_
  refine r_pI hB cf12 2 (by decide) (own := "PulseRemoteModel") rfl (Or.inl k_1117) (Or.inl rfl) rfl (by decide +kernel : decode cX12_note 93 = .ok (.putfield 64, 3)) hf (fun m93 hf => ?_)
  obtain rfl := Option.some.inj hf
  obtain ⟨rfl, rfl⟩ := hk
  exact r_vret hB (by decide +kernel : decode cX12_note 96 = .ok (.return_, 1))
set_option maxHeartbeats 4000000 in
set_option maxRecDepth 100000 in
theorem t_X12_note_52_b {X : BX} {D : va_G} {cy : Nat → ClassId} {b : Nat} {r : Option Value} {μ' : MS} (hB : BB X D cy b yX12_note cX12_note 2 none rmX12_note) {l0 : Nat} {l1 : Int32} {μ : MS} {z : ((Nat × Int32 × MS) ⊕ MS)} (hf : f_X12_note_52_b l0 l1 μ = some z) (hk : (Sum.elim (fun s : Nat × Int32 × MS => WW X D cy b r μ' 2 0 0 52 [(0, .ref (b + s.1)), (1, .int s.2.1)] [] s.2.2) (fun z : MS => r = none ∧ μ' = z)) z) : WW X D cy b r μ' 2 0 0 52 [(0, .ref (b + l0)), (1, .int l1)] [] μ := by
  unfold f_X12_note_52_b at hf
  refine r_iload_n hB 1 rfl (by decide +kernel : decode cX12_note 52 = .ok (.iload_n 1, 1)) rfl ?_
  refine r_sipush hB (v := 686) (by decide +kernel : decode cX12_note 53 = .ok (.sipush 686, 3)) (by decide +kernel) ?_
  refine r_icmp_ge hB (tgt := 86) (by decide +kernel : decode cX12_note 56 = .ok (.if_icmp .ge 30, 3)) (by decide) hf (fun _ hf => ?_) (fun _ hf => ?_)
  · obtain ⟨_, hx0, rfl⟩ := xr_inv hf
    exact WW.sub [0] rfl (t_X12_note_86 hB hx0 hk)
  · refine r_aload_n hB 0 rfl (by decide +kernel : decode cX12_note 59 = .ok (.aload_n 0, 1)) rfl ?_
    refine r_gR hB cf12 1 (by decide) (own := "PulseRemoteModel") rfl (Or.inl k_1116) (by decide +kernel) (by decide +kernel : decode cX12_note 60 = .ok (.getfield 13, 3)) hf (fun x60 hf => ?_)
    refine r_sipush hB (v := 686) (by decide +kernel : decode cX12_note 63 = .ok (.sipush 686, 3)) (by decide +kernel) ?_
    refine r_aload_n hB 0 rfl (by decide +kernel : decode cX12_note 66 = .ok (.aload_n 0, 1)) rfl ?_
    refine r_gI hB cf12 2 (by decide) (own := "PulseRemoteModel") rfl (Or.inl k_1117) (by decide +kernel) (by decide +kernel : decode cX12_note 67 = .ok (.getfield 64, 3)) hf (fun x67 hf => ?_)
    refine r_imul hB (by decide +kernel : decode cX12_note 70 = .ok (.imul, 1)) ?_
    refine r_iload_n hB 1 rfl (by decide +kernel : decode cX12_note 71 = .ok (.iload_n 1, 1)) rfl ?_
    refine r_iadd hB (by decide +kernel : decode cX12_note 72 = .ok (.iadd, 1)) ?_
    refine r_aload_n hB 0 rfl (by decide +kernel : decode cX12_note 73 = .ok (.aload_n 0, 1)) rfl ?_
    refine r_gR hB cf12 0 (by decide) (own := "PulseRemoteModel") rfl (Or.inl k_1115) (by decide +kernel) (by decide +kernel : decode cX12_note 74 = .ok (.getfield 7, 3)) hf (fun x74 hf => ?_)
    refine r_iload_n hB 1 rfl (by decide +kernel : decode cX12_note 77 = .ok (.iload_n 1, 1)) rfl ?_
    refine r_iald hB (by decide +kernel : decode cX12_note 78 = .ok (.iaload, 1)) hf (fun x78 hf => ?_)
    refine r_iast hB (by decide +kernel : decode cX12_note 79 = .ok (.iastore, 1)) hf (fun m79 hf => ?_)
    refine r_iincB hB 1 rfl (by decide +kernel : decode cX12_note 80 = .ok (.iinc 1 1, 3)) (w := 1) (by decide +kernel) (by decide) hf (fun v80 hf => ?_)
    refine ww_lv (lv' := [(1, .int v80), (0, .ref (b + l0))]) rfl ?_
    refine r_goto hB (tgt := 52) (by decide +kernel : decode cX12_note 83 = .ok (.goto (-31), 3)) (by decide) ?_
    obtain rfl := Option.some.inj hf
    exact WW.sub [1, 0] rfl hk
set_option maxHeartbeats 4000000 in
set_option maxRecDepth 100000 in
theorem t_X12_note_52 {X : BX} {D : va_G} {cy : Nat → ClassId} {b : Nat} {r : Option Value} {μ' : MS} (hB : BB X D cy b yX12_note cX12_note 2 none rmX12_note) {l0 : Nat} {l1 : Int32} {μ : MS} {z : MS} (hf : f_X12_note_52 l0 l1 μ = some z) (hk : (fun z : MS => r = none ∧ μ' = z) z) : WW X D cy b r μ' 2 0 0 52 [(0, .ref (b + l0)), (1, .int l1)] [] μ :=
  lp_ind (P := fun s : Nat × Int32 × MS => WW X D cy b r μ' 2 0 0 52 [(0, .ref (b + s.1)), (1, .int s.2.1)] [] s.2.2) (Q := (fun z : MS => r = none ∧ μ' = z)) (fun s z hz hk => t_X12_note_52_b hB hz hk) (l0, l1, μ) z hf hk
set_option maxHeartbeats 4000000 in
set_option maxRecDepth 100000 in
theorem t_X12_note_50 {X : BX} {D : va_G} {cy : Nat → ClassId} {b : Nat} {r : Option Value} {μ' : MS} (hB : BB X D cy b yX12_note cX12_note 2 none rmX12_note) {l0 : Nat} {μ : MS} {z : MS} (hf : f_X12_note_50 l0 μ = some z) (hk : (fun z : MS => r = none ∧ μ' = z) z) : WW X D cy b r μ' 2 0 0 50 [(0, .ref (b + l0))] [] μ := by
  unfold f_X12_note_50 at hf
  refine r_iconst hB (v := 0) (by decide +kernel : decode cX12_note 50 = .ok (.iconst 0, 1)) (by decide +kernel) ?_
  refine r_istore_n hB (by decide +kernel : decode cX12_note 51 = .ok (.istore_n 1, 1)) rfl (by decide) rfl ?_
  refine ww_lv (lv' := [(1, .int 0), (0, .ref (b + l0))]) rfl ?_
  exact WW.sub [1, 0] rfl (t_X12_note_52 hB hf hk)
set_option maxHeartbeats 4000000 in
set_option maxRecDepth 100000 in
theorem t_X12_note_40 {X : BX} {D : va_G} {cy : Nat → ClassId} {b : Nat} {r : Option Value} {μ' : MS} (hB : BB X D cy b yX12_note cX12_note 2 none rmX12_note) {l0 : Nat} {μ : MS} {z : MS} (hf : f_X12_note_40 l0 μ = some z) (hk : (fun z : MS => r = none ∧ μ' = z) z) : WW X D cy b r μ' 2 0 0 40 [(0, .ref (b + l0))] [] μ := by
  unfold f_X12_note_40 at hf
  refine r_aload_n hB 0 rfl (by decide +kernel : decode cX12_note 40 = .ok (.aload_n 0, 1)) rfl ?_
  refine r_dup hB (by decide +kernel : decode cX12_note 41 = .ok (.dup, 1)) rfl ?_
  refine r_gI hB cf12 2 (by decide) (own := "PulseRemoteModel") rfl (Or.inl k_1117) (by decide +kernel) (by decide +kernel : decode cX12_note 42 = .ok (.getfield 64, 3)) hf (fun x42 hf => ?_)
  refine r_iconst hB (v := 1) (by decide +kernel : decode cX12_note 45 = .ok (.iconst 1, 1)) (by decide +kernel) ?_
  refine r_isub hB (by decide +kernel : decode cX12_note 46 = .ok (.isub, 1)) ?_
  refine r_pI hB cf12 2 (by decide) (own := "PulseRemoteModel") rfl (Or.inl k_1117) (Or.inl rfl) rfl (by decide +kernel : decode cX12_note 47 = .ok (.putfield 64, 3)) hf (fun m47 hf => ?_)
  exact WW.sub [0] rfl (t_X12_note_50 hB hf hk)
set_option maxHeartbeats 4000000 in
set_option maxRecDepth 100000 in
theorem t_X12_note_11_b {X : BX} {D : va_G} {cy : Nat → ClassId} {b : Nat} {r : Option Value} {μ' : MS} (hB : BB X D cy b yX12_note cX12_note 2 none rmX12_note) {l0 : Nat} {l1 : Int32} {μ : MS} {z : ((Nat × Int32 × MS) ⊕ MS)} (hf : f_X12_note_11_b l0 l1 μ = some z) (hk : (Sum.elim (fun s : Nat × Int32 × MS => WW X D cy b r μ' 2 0 0 11 [(0, .ref (b + s.1)), (1, .int s.2.1)] [] s.2.2) (fun z : MS => r = none ∧ μ' = z)) z) : WW X D cy b r μ' 2 0 0 11 [(0, .ref (b + l0)), (1, .int l1)] [] μ := by
  unfold f_X12_note_11_b at hf
  refine r_iload_n hB 1 rfl (by decide +kernel : decode cX12_note 11 = .ok (.iload_n 1, 1)) rfl ?_
  refine r_sipush hB (v := 3430) (by decide +kernel : decode cX12_note 12 = .ok (.sipush 3430, 3)) (by decide +kernel) ?_
  refine r_icmp_ge hB (tgt := 40) (by decide +kernel : decode cX12_note 15 = .ok (.if_icmp .ge 25, 3)) (by decide) hf (fun _ hf => ?_) (fun _ hf => ?_)
  · obtain ⟨_, hx0, rfl⟩ := xr_inv hf
    exact WW.sub [0] rfl (t_X12_note_40 hB hx0 hk)
  · refine r_aload_n hB 0 rfl (by decide +kernel : decode cX12_note 18 = .ok (.aload_n 0, 1)) rfl ?_
    refine r_gR hB cf12 1 (by decide) (own := "PulseRemoteModel") rfl (Or.inl k_1116) (by decide +kernel) (by decide +kernel : decode cX12_note 19 = .ok (.getfield 13, 3)) hf (fun x19 hf => ?_)
    refine r_iload_n hB 1 rfl (by decide +kernel : decode cX12_note 22 = .ok (.iload_n 1, 1)) rfl ?_
    refine r_aload_n hB 0 rfl (by decide +kernel : decode cX12_note 23 = .ok (.aload_n 0, 1)) rfl ?_
    refine r_gR hB cf12 1 (by decide) (own := "PulseRemoteModel") rfl (Or.inl k_1116) (by decide +kernel) (by decide +kernel : decode cX12_note 24 = .ok (.getfield 13, 3)) hf (fun x24 hf => ?_)
    refine r_iload_n hB 1 rfl (by decide +kernel : decode cX12_note 27 = .ok (.iload_n 1, 1)) rfl ?_
    refine r_sipush hB (v := 686) (by decide +kernel : decode cX12_note 28 = .ok (.sipush 686, 3)) (by decide +kernel) ?_
    refine r_iadd hB (by decide +kernel : decode cX12_note 31 = .ok (.iadd, 1)) ?_
    refine r_iald hB (by decide +kernel : decode cX12_note 32 = .ok (.iaload, 1)) hf (fun x32 hf => ?_)
    refine r_iast hB (by decide +kernel : decode cX12_note 33 = .ok (.iastore, 1)) hf (fun m33 hf => ?_)
    refine r_iincB hB 1 rfl (by decide +kernel : decode cX12_note 34 = .ok (.iinc 1 1, 3)) (w := 1) (by decide +kernel) (by decide) hf (fun v34 hf => ?_)
    refine ww_lv (lv' := [(1, .int v34), (0, .ref (b + l0))]) rfl ?_
    refine r_goto hB (tgt := 11) (by decide +kernel : decode cX12_note 37 = .ok (.goto (-26), 3)) (by decide) ?_
    obtain rfl := Option.some.inj hf
    exact WW.sub [1, 0] rfl hk
set_option maxHeartbeats 4000000 in
set_option maxRecDepth 100000 in
theorem t_X12_note_11 {X : BX} {D : va_G} {cy : Nat → ClassId} {b : Nat} {r : Option Value} {μ' : MS} (hB : BB X D cy b yX12_note cX12_note 2 none rmX12_note) {l0 : Nat} {l1 : Int32} {μ : MS} {z : MS} (hf : f_X12_note_11 l0 l1 μ = some z) (hk : (fun z : MS => r = none ∧ μ' = z) z) : WW X D cy b r μ' 2 0 0 11 [(0, .ref (b + l0)), (1, .int l1)] [] μ :=
  lp_ind (P := fun s : Nat × Int32 × MS => WW X D cy b r μ' 2 0 0 11 [(0, .ref (b + s.1)), (1, .int s.2.1)] [] s.2.2) (Q := (fun z : MS => r = none ∧ μ' = z)) (fun s z hz hk => t_X12_note_11_b hB hz hk) (l0, l1, μ) z hf hk
set_option maxHeartbeats 4000000 in
set_option maxRecDepth 100000 in
theorem t_X12_note_0 {X : BX} {D : va_G} {cy : Nat → ClassId} {b : Nat} {r : Option Value} {μ' : MS} (hB : BB X D cy b yX12_note cX12_note 2 none rmX12_note) {l0 : Nat} {μ : MS} {z : MS} (hf : f_X12_note l0 μ = some z) (hk : (fun z : MS => r = none ∧ μ' = z) z) : WW X D cy b r μ' 2 0 0 0 [(0, .ref (b + l0))] [] μ := by
  unfold f_X12_note at hf
  refine r_aload_n hB 0 rfl (by decide +kernel : decode cX12_note 0 = .ok (.aload_n 0, 1)) rfl ?_
  refine r_gI hB cf12 2 (by decide) (own := "PulseRemoteModel") rfl (Or.inl k_1117) (by decide +kernel) (by decide +kernel : decode cX12_note 1 = .ok (.getfield 64, 3)) hf (fun x1 hf => ?_)
  refine r_bipush hB (v := 6) (by decide +kernel : decode cX12_note 4 = .ok (.bipush 6, 2)) (by decide +kernel) ?_
  refine r_icmp_ne hB (tgt := 50) (by decide +kernel : decode cX12_note 6 = .ok (.if_icmp .ne 44, 3)) (by decide) hf (fun _ hf => ?_) (fun _ hf => ?_)
  · refine r_iconst hB (v := 0) (by decide +kernel : decode cX12_note 9 = .ok (.iconst 0, 1)) (by decide +kernel) ?_
    refine r_istore_n hB (by decide +kernel : decode cX12_note 10 = .ok (.istore_n 1, 1)) rfl (by decide) rfl ?_
    refine ww_lv (lv' := [(1, .int 0), (0, .ref (b + l0))]) rfl ?_
    exact WW.sub [1, 0] rfl (t_X12_note_11 hB hf hk)
  · exact WW.sub [0] rfl (t_X12_note_50 hB hf hk)
theorem m_X12_note (l : Launch) (D : va_G) (cy : Nat → ClassId) (b : Nat) {l0 : Nat} {μ : MS} {z : MS} (hf : f_X12_note l0 μ = some z) : Met l yX12_note (.code yX12_note cX12_note 2 none :: GW) rmX12_note (Pw D cy b [.ref (b + l0)] μ) (Qw D cy b (none) (z)) rmX12_note.cells rmX12_note.slots (fun q => b ≤ q) :=
  met_of (by decide) (Nat.le_of_ble_eq_true rfl) (fun X hB _ => (t_X12_note_0 hB hf ⟨rfl, rfl⟩))
-- PulseRemoteModel.undo()I
set_option maxHeartbeats 4000000 in
set_option maxRecDepth 100000 in
theorem t_X12_undo_56 {X : BX} {D : va_G} {cy : Nat → ClassId} {b : Nat} {r : Option Value} {μ' : MS} (hB : BB X D cy b yX12_undo cX12_undo 2 (some .int) rmX12_undo) {l0 : Nat} {μ : MS} {z : (Int32 × MS)} (hf : f_X12_undo_56 l0 μ = some z) (hk : (fun z : Int32 × MS => r = some (.int z.1) ∧ μ' = z.2) z) : WW X D cy b r μ' 2 0 0 56 [(0, .ref (b + l0))] [] μ := by
  unfold f_X12_undo_56 at hf
  refine r_aload_n hB 0 rfl (by decide +kernel : decode cX12_undo 56 = .ok (.aload_n 0, 1)) rfl ?_
  refine r_gI hB cf12 2 (by decide) (own := "PulseRemoteModel") rfl (Or.inl k_1117) (by decide +kernel) (by decide +kernel : decode cX12_undo 57 = .ok (.getfield 64, 3)) hf (fun x57 hf => ?_)
  obtain rfl := Option.some.inj hf
  obtain ⟨rfl, rfl⟩ := hk
  exact r_iret hB (by decide +kernel : decode cX12_undo 60 = .ok (.ireturn, 1))
set_option maxHeartbeats 4000000 in
set_option maxRecDepth 100000 in
theorem t_X12_undo_22_b {X : BX} {D : va_G} {cy : Nat → ClassId} {b : Nat} {r : Option Value} {μ' : MS} (hB : BB X D cy b yX12_undo cX12_undo 2 (some .int) rmX12_undo) {l0 : Nat} {l1 : Int32} {μ : MS} {z : ((Nat × Int32 × MS) ⊕ (Int32 × MS))} (hf : f_X12_undo_22_b l0 l1 μ = some z) (hk : (Sum.elim (fun s : Nat × Int32 × MS => WW X D cy b r μ' 2 0 0 22 [(0, .ref (b + s.1)), (1, .int s.2.1)] [] s.2.2) (fun z : Int32 × MS => r = some (.int z.1) ∧ μ' = z.2)) z) : WW X D cy b r μ' 2 0 0 22 [(0, .ref (b + l0)), (1, .int l1)] [] μ := by
  unfold f_X12_undo_22_b at hf
  refine r_iload_n hB 1 rfl (by decide +kernel : decode cX12_undo 22 = .ok (.iload_n 1, 1)) rfl ?_
  refine r_sipush hB (v := 686) (by decide +kernel : decode cX12_undo 23 = .ok (.sipush 686, 3)) (by decide +kernel) ?_
  refine r_icmp_ge hB (tgt := 56) (by decide +kernel : decode cX12_undo 26 = .ok (.if_icmp .ge 30, 3)) (by decide) hf (fun _ hf => ?_) (fun _ hf => ?_)
  · obtain ⟨_, hx0, rfl⟩ := xr_inv hf
    exact WW.sub [0] rfl (t_X12_undo_56 hB hx0 hk)
  · refine r_aload_n hB 0 rfl (by decide +kernel : decode cX12_undo 29 = .ok (.aload_n 0, 1)) rfl ?_
    refine r_gR hB cf12 0 (by decide) (own := "PulseRemoteModel") rfl (Or.inl k_1115) (by decide +kernel) (by decide +kernel : decode cX12_undo 30 = .ok (.getfield 7, 3)) hf (fun x30 hf => ?_)
    refine r_iload_n hB 1 rfl (by decide +kernel : decode cX12_undo 33 = .ok (.iload_n 1, 1)) rfl ?_
    refine r_aload_n hB 0 rfl (by decide +kernel : decode cX12_undo 34 = .ok (.aload_n 0, 1)) rfl ?_
    refine r_gR hB cf12 1 (by decide) (own := "PulseRemoteModel") rfl (Or.inl k_1116) (by decide +kernel) (by decide +kernel : decode cX12_undo 35 = .ok (.getfield 13, 3)) hf (fun x35 hf => ?_)
    refine r_sipush hB (v := 686) (by decide +kernel : decode cX12_undo 38 = .ok (.sipush 686, 3)) (by decide +kernel) ?_
    refine r_aload_n hB 0 rfl (by decide +kernel : decode cX12_undo 41 = .ok (.aload_n 0, 1)) rfl ?_
    refine r_gI hB cf12 2 (by decide) (own := "PulseRemoteModel") rfl (Or.inl k_1117) (by decide +kernel) (by decide +kernel : decode cX12_undo 42 = .ok (.getfield 64, 3)) hf (fun x42 hf => ?_)
    refine r_imul hB (by decide +kernel : decode cX12_undo 45 = .ok (.imul, 1)) ?_
    refine r_iload_n hB 1 rfl (by decide +kernel : decode cX12_undo 46 = .ok (.iload_n 1, 1)) rfl ?_
    refine r_iadd hB (by decide +kernel : decode cX12_undo 47 = .ok (.iadd, 1)) ?_
    refine r_iald hB (by decide +kernel : decode cX12_undo 48 = .ok (.iaload, 1)) hf (fun x48 hf => ?_)
    refine r_iast hB (by decide +kernel : decode cX12_undo 49 = .ok (.iastore, 1)) hf (fun m49 hf => ?_)
    refine r_iincB hB 1 rfl (by decide +kernel : decode cX12_undo 50 = .ok (.iinc 1 1, 3)) (w := 1) (by decide +kernel) (by decide) hf (fun v50 hf => ?_)
    refine ww_lv (lv' := [(1, .int v50), (0, .ref (b + l0))]) rfl ?_
    refine r_goto hB (tgt := 22) (by decide +kernel : decode cX12_undo 53 = .ok (.goto (-31), 3)) (by decide) ?_
    obtain rfl := Option.some.inj hf
    exact WW.sub [1, 0] rfl hk
set_option maxHeartbeats 4000000 in
set_option maxRecDepth 100000 in
theorem t_X12_undo_22 {X : BX} {D : va_G} {cy : Nat → ClassId} {b : Nat} {r : Option Value} {μ' : MS} (hB : BB X D cy b yX12_undo cX12_undo 2 (some .int) rmX12_undo) {l0 : Nat} {l1 : Int32} {μ : MS} {z : (Int32 × MS)} (hf : f_X12_undo_22 l0 l1 μ = some z) (hk : (fun z : Int32 × MS => r = some (.int z.1) ∧ μ' = z.2) z) : WW X D cy b r μ' 2 0 0 22 [(0, .ref (b + l0)), (1, .int l1)] [] μ :=
  lp_ind (P := fun s : Nat × Int32 × MS => WW X D cy b r μ' 2 0 0 22 [(0, .ref (b + s.1)), (1, .int s.2.1)] [] s.2.2) (Q := (fun z : Int32 × MS => r = some (.int z.1) ∧ μ' = z.2)) (fun s z hz hk => t_X12_undo_22_b hB hz hk) (l0, l1, μ) z hf hk
set_option maxHeartbeats 4000000 in
set_option maxRecDepth 100000 in
theorem t_X12_undo_0 {X : BX} {D : va_G} {cy : Nat → ClassId} {b : Nat} {r : Option Value} {μ' : MS} (hB : BB X D cy b yX12_undo cX12_undo 2 (some .int) rmX12_undo) {l0 : Nat} {μ : MS} {z : (Int32 × MS)} (hf : f_X12_undo l0 μ = some z) (hk : (fun z : Int32 × MS => r = some (.int z.1) ∧ μ' = z.2) z) : WW X D cy b r μ' 2 0 0 0 [(0, .ref (b + l0))] [] μ := by
  unfold f_X12_undo at hf
  refine r_aload_n hB 0 rfl (by decide +kernel : decode cX12_undo 0 = .ok (.aload_n 0, 1)) rfl ?_
  refine r_gI hB cf12 2 (by decide) (own := "PulseRemoteModel") rfl (Or.inl k_1117) (by decide +kernel) (by decide +kernel : decode cX12_undo 1 = .ok (.getfield 64, 3)) hf (fun x1 hf => ?_)
  refine r_if_ne hB (tgt := 10) (by decide +kernel : decode cX12_undo 4 = .ok (.ifCond .ne 6, 3)) (by decide) hf (fun _ hf => ?_) (fun _ hf => ?_)
  · refine r_bipush hB (v := (-2)) (by decide +kernel : decode cX12_undo 7 = .ok (.bipush (-2), 2)) (by decide +kernel) ?_
    obtain rfl := Option.some.inj hf
    obtain ⟨rfl, rfl⟩ := hk
    exact r_iret hB (by decide +kernel : decode cX12_undo 9 = .ok (.ireturn, 1))
  · refine r_aload_n hB 0 rfl (by decide +kernel : decode cX12_undo 10 = .ok (.aload_n 0, 1)) rfl ?_
    refine r_dup hB (by decide +kernel : decode cX12_undo 11 = .ok (.dup, 1)) rfl ?_
    refine r_gI hB cf12 2 (by decide) (own := "PulseRemoteModel") rfl (Or.inl k_1117) (by decide +kernel) (by decide +kernel : decode cX12_undo 12 = .ok (.getfield 64, 3)) hf (fun x12 hf => ?_)
    refine r_iconst hB (v := 1) (by decide +kernel : decode cX12_undo 15 = .ok (.iconst 1, 1)) (by decide +kernel) ?_
    refine r_isub hB (by decide +kernel : decode cX12_undo 16 = .ok (.isub, 1)) ?_
    refine r_pI hB cf12 2 (by decide) (own := "PulseRemoteModel") rfl (Or.inl k_1117) (Or.inl rfl) rfl (by decide +kernel : decode cX12_undo 17 = .ok (.putfield 64, 3)) hf (fun m17 hf => ?_)
    refine r_iconst hB (v := 0) (by decide +kernel : decode cX12_undo 20 = .ok (.iconst 0, 1)) (by decide +kernel) ?_
    refine r_istore_n hB (by decide +kernel : decode cX12_undo 21 = .ok (.istore_n 1, 1)) rfl (by decide) rfl ?_
    refine ww_lv (lv' := [(1, .int 0), (0, .ref (b + l0))]) rfl ?_
    exact WW.sub [1, 0] rfl (t_X12_undo_22 hB hf hk)
theorem m_X12_undo (l : Launch) (D : va_G) (cy : Nat → ClassId) (b : Nat) {l0 : Nat} {μ : MS} {z : Int32 × MS} (hf : f_X12_undo l0 μ = some z) : Met l yX12_undo (.code yX12_undo cX12_undo 2 (some .int) :: GW) rmX12_undo (Pw D cy b [.ref (b + l0)] μ) (Qw D cy b (some (.int z.1)) (z.2)) rmX12_undo.cells rmX12_undo.slots (fun q => b ≤ q) :=
  met_of (by decide) (Nat.le_of_ble_eq_true rfl) (fun X hB _ => (t_X12_undo_0 hB hf ⟨rfl, rfl⟩))
-- PulseRemoteModel.isSlot(I)Z
set_option maxHeartbeats 4000000 in
set_option maxRecDepth 100000 in
theorem t_X12_isSlot_0 {X : BX} {D : va_G} {cy : Nat → ClassId} {b : Nat} {r : Option Value} {μ' : MS} (hB : BB X D cy b yX12_isSlot cX12_isSlot 1 (some .boolean) rmX12_isSlot) {l0 : Int32} {μ : MS} {z : (Int32 × MS)} (hf : f_X12_isSlot l0 μ = some z) (hk : (fun z : Int32 × MS => r = some (.int z.1) ∧ μ' = z.2) z) : WW X D cy b r μ' 1 0 0 0 [(0, .int l0)] [] μ := by
  unfold f_X12_isSlot at hf
  refine r_iload_n hB 0 rfl (by decide +kernel : decode cX12_isSlot 0 = .ok (.iload_n 0, 1)) rfl ?_
  refine r_iconst hB (v := 0) (by decide +kernel : decode cX12_isSlot 1 = .ok (.iconst 0, 1)) (by decide +kernel) ?_
  refine r_iconst hB (v := 2) (by decide +kernel : decode cX12_isSlot 2 = .ok (.iconst 2, 1)) (by decide +kernel) ?_
  refine r_cSi hB [.int l0, .int 0, .int 2] [] (own := "PulseRemoteModel") rfl cmX12_in smX12_in (Or.inl ⟨rfl, k_1233⟩) (by decide) rfl rfl rfl (Nat.le_of_ble_eq_true rfl) (by decide +kernel : decode cX12_isSlot 3 = .ok (.invokestatic 68, 3)) (fun z hz => m_X12_in _ _ _ _ hz) rfl hf (fun z3 hf => ?_)
  obtain ⟨hv, rfl⟩ := rZ_inv hf
  obtain ⟨rfl, rfl⟩ := hk
  exact r_zret hB hv (by decide +kernel : decode cX12_isSlot 6 = .ok (.ireturn, 1))
theorem m_X12_isSlot (l : Launch) (D : va_G) (cy : Nat → ClassId) (b : Nat) {l0 : Int32} {μ : MS} {z : Int32 × MS} (hf : f_X12_isSlot l0 μ = some z) : Met l yX12_isSlot (.code yX12_isSlot cX12_isSlot 1 (some .boolean) :: GW) rmX12_isSlot (Pw D cy b [.int l0] μ) (Qw D cy b (some (.int z.1)) (z.2)) rmX12_isSlot.cells rmX12_isSlot.slots (fun q => b ≤ q) :=
  met_of (by decide) (Nat.le_of_ble_eq_true rfl) (fun X hB _ => (t_X12_isSlot_0 hB hf ⟨rfl, rfl⟩))
-- PulseRemoteModel.isProtocol(I)Z
set_option maxHeartbeats 4000000 in
set_option maxRecDepth 100000 in
theorem t_X12_isProtocol_0 {X : BX} {D : va_G} {cy : Nat → ClassId} {b : Nat} {r : Option Value} {μ' : MS} (hB : BB X D cy b yX12_isProtocol cX12_isProtocol 2 (some .boolean) rmX12_isProtocol) {l0 : Nat} {l1 : Int32} {μ : MS} {z : (Int32 × MS)} (hf : f_X12_isProtocol l0 l1 μ = some z) (hk : (fun z : Int32 × MS => r = some (.int z.1) ∧ μ' = z.2) z) : WW X D cy b r μ' 2 0 0 0 [(0, .ref (b + l0)), (1, .int l1)] [] μ := by
  unfold f_X12_isProtocol at hf
  refine r_iload_n hB 1 rfl (by decide +kernel : decode cX12_isProtocol 0 = .ok (.iload_n 1, 1)) rfl ?_
  refine r_iconst hB (v := 0) (by decide +kernel : decode cX12_isProtocol 1 = .ok (.iconst 0, 1)) (by decide +kernel) ?_
  refine r_aload_n hB 0 rfl (by decide +kernel : decode cX12_isProtocol 2 = .ok (.aload_n 0, 1)) rfl ?_
  refine r_gR hB cf12 0 (by decide) (own := "PulseRemoteModel") rfl (Or.inl k_1115) (by decide +kernel) (by decide +kernel : decode cX12_isProtocol 3 = .ok (.getfield 7, 3)) hf (fun x3 hf => ?_)
  refine r_iconst hB (v := 3) (by decide +kernel : decode cX12_isProtocol 6 = .ok (.iconst 3, 1)) (by decide +kernel) ?_
  refine r_iald hB (by decide +kernel : decode cX12_isProtocol 7 = .ok (.iaload, 1)) hf (fun x7 hf => ?_)
  refine r_iconst hB (v := 1) (by decide +kernel : decode cX12_isProtocol 8 = .ok (.iconst 1, 1)) (by decide +kernel) ?_
  refine r_isub hB (by decide +kernel : decode cX12_isProtocol 9 = .ok (.isub, 1)) ?_
  refine r_cSi hB [.int l1, .int 0, .int (x7 - 1)] [] (own := "PulseRemoteModel") rfl cmX12_in smX12_in (Or.inl ⟨rfl, k_1233⟩) (by decide) rfl rfl rfl (Nat.le_of_ble_eq_true rfl) (by decide +kernel : decode cX12_isProtocol 10 = .ok (.invokestatic 68, 3)) (fun z hz => m_X12_in _ _ _ _ hz) rfl hf (fun z10 hf => ?_)
  obtain ⟨hv, rfl⟩ := rZ_inv hf
  obtain ⟨rfl, rfl⟩ := hk
  exact r_zret hB hv (by decide +kernel : decode cX12_isProtocol 13 = .ok (.ireturn, 1))
theorem m_X12_isProtocol (l : Launch) (D : va_G) (cy : Nat → ClassId) (b : Nat) {l0 : Nat} {l1 : Int32} {μ : MS} {z : Int32 × MS} (hf : f_X12_isProtocol l0 l1 μ = some z) : Met l yX12_isProtocol (.code yX12_isProtocol cX12_isProtocol 2 (some .boolean) :: GW) rmX12_isProtocol (Pw D cy b [.ref (b + l0), .int l1] μ) (Qw D cy b (some (.int z.1)) (z.2)) rmX12_isProtocol.cells rmX12_isProtocol.slots (fun q => b ≤ q) :=
  met_of (by decide) (Nat.le_of_ble_eq_true rfl) (fun X hB _ => (t_X12_isProtocol_0 hB hf ⟨rfl, rfl⟩))
-- PulseRemoteModel.at(I)I
set_option maxHeartbeats 4000000 in
set_option maxRecDepth 100000 in
theorem t_X12_at_0 {X : BX} {D : va_G} {cy : Nat → ClassId} {b : Nat} {r : Option Value} {μ' : MS} (hB : BB X D cy b yX12_at cX12_at 1 (some .int) rmX12_at) {l0 : Int32} {μ : MS} {z : (Int32 × MS)} (hf : f_X12_at l0 μ = some z) (hk : (fun z : Int32 × MS => r = some (.int z.1) ∧ μ' = z.2) z) : WW X D cy b r μ' 1 0 0 0 [(0, .int l0)] [] μ := by
  unfold f_X12_at at hf
  refine r_iconst hB (v := 4) (by decide +kernel : decode cX12_at 0 = .ok (.iconst 4, 1)) (by decide +kernel) ?_
  refine r_bipush hB (v := 9) (by decide +kernel : decode cX12_at 1 = .ok (.bipush 9, 2)) (by decide +kernel) ?_
  refine r_iload_n hB 0 rfl (by decide +kernel : decode cX12_at 3 = .ok (.iload_n 0, 1)) rfl ?_
  refine r_imul hB (by decide +kernel : decode cX12_at 4 = .ok (.imul, 1)) ?_
  refine r_iadd hB (by decide +kernel : decode cX12_at 5 = .ok (.iadd, 1)) ?_
  obtain rfl := Option.some.inj hf
  obtain ⟨rfl, rfl⟩ := hk
  exact r_iret hB (by decide +kernel : decode cX12_at 6 = .ok (.ireturn, 1))
theorem m_X12_at (l : Launch) (D : va_G) (cy : Nat → ClassId) (b : Nat) {l0 : Int32} {μ : MS} {z : Int32 × MS} (hf : f_X12_at l0 μ = some z) : Met l yX12_at (.code yX12_at cX12_at 1 (some .int) :: GW) rmX12_at (Pw D cy b [.int l0] μ) (Qw D cy b (some (.int z.1)) (z.2)) rmX12_at.cells rmX12_at.slots (fun q => b ≤ q) :=
  met_of (by decide) (Nat.le_of_ble_eq_true rfl) (fun X hB _ => (t_X12_at_0 hB hf ⟨rfl, rfl⟩))
-- PulseRemoteModel.isCode(II)Z
set_option maxHeartbeats 4000000 in
set_option maxRecDepth 100000 in
theorem t_X12_isCode_0 {X : BX} {D : va_G} {cy : Nat → ClassId} {b : Nat} {r : Option Value} {μ' : MS} (hB : BB X D cy b yX12_isCode cX12_isCode 3 (some .boolean) rmX12_isCode) {l0 : Nat} {l1 : Int32} {l2 : Int32} {μ : MS} {z : (Int32 × MS)} (hf : f_X12_isCode l0 l1 l2 μ = some z) (hk : (fun z : Int32 × MS => r = some (.int z.1) ∧ μ' = z.2) z) : WW X D cy b r μ' 3 0 0 0 [(0, .ref (b + l0)), (1, .int l1), (2, .int l2)] [] μ := by
  unfold f_X12_isCode at hf
  refine r_iload_n hB 2 rfl (by decide +kernel : decode cX12_isCode 0 = .ok (.iload_n 2, 1)) rfl ?_
  refine r_iconst hB (v := 0) (by decide +kernel : decode cX12_isCode 1 = .ok (.iconst 0, 1)) (by decide +kernel) ?_
  refine r_iconst hB (v := 1) (by decide +kernel : decode cX12_isCode 2 = .ok (.iconst 1, 1)) (by decide +kernel) ?_
  refine r_aload_n hB 0 rfl (by decide +kernel : decode cX12_isCode 3 = .ok (.aload_n 0, 1)) rfl ?_
  refine r_gR hB cf12 0 (by decide) (own := "PulseRemoteModel") rfl (Or.inl k_1115) (by decide +kernel) (by decide +kernel : decode cX12_isCode 4 = .ok (.getfield 7, 3)) hf (fun x4 hf => ?_)
  refine r_iload_n hB 1 rfl (by decide +kernel : decode cX12_isCode 7 = .ok (.iload_n 1, 1)) rfl ?_
  refine r_cSi hB [.int l1] [.ref (b + x4), .int 1, .int 0, .int l2] (own := "PulseRemoteModel") rfl cmX12_at smX12_at (Or.inl ⟨rfl, k_1244⟩) (by decide) rfl rfl rfl (Nat.le_of_ble_eq_true rfl) (by decide +kernel : decode cX12_isCode 8 = .ok (.invokestatic 72, 3)) (fun z hz => m_X12_at _ _ _ _ hz) rfl hf (fun z8 hf => ?_)
  refine r_bipush hB (v := 6) (by decide +kernel : decode cX12_isCode 11 = .ok (.bipush 6, 2)) (by decide +kernel) ?_
  refine r_iadd hB (by decide +kernel : decode cX12_isCode 13 = .ok (.iadd, 1)) ?_
  refine r_iald hB (by decide +kernel : decode cX12_isCode 14 = .ok (.iaload, 1)) hf (fun x14 hf => ?_)
  refine r_ishl hB (by decide +kernel : decode cX12_isCode 15 = .ok (.ishl, 1)) ?_
  refine r_iconst hB (v := 1) (by decide +kernel : decode cX12_isCode 16 = .ok (.iconst 1, 1)) (by decide +kernel) ?_
  refine r_isub hB (by decide +kernel : decode cX12_isCode 17 = .ok (.isub, 1)) ?_
  refine r_cSi hB [.int l2, .int 0, .int ((1 <<< (x14 &&& 31)) - 1)] [] (own := "PulseRemoteModel") rfl cmX12_in smX12_in (Or.inl ⟨rfl, k_1233⟩) (by decide) rfl rfl rfl (Nat.le_of_ble_eq_true rfl) (by decide +kernel : decode cX12_isCode 18 = .ok (.invokestatic 68, 3)) (fun z hz => m_X12_in _ _ _ _ hz) rfl hf (fun z18 hf => ?_)
  obtain ⟨hv, rfl⟩ := rZ_inv hf
  obtain ⟨rfl, rfl⟩ := hk
  exact r_zret hB hv (by decide +kernel : decode cX12_isCode 21 = .ok (.ireturn, 1))
theorem m_X12_isCode (l : Launch) (D : va_G) (cy : Nat → ClassId) (b : Nat) {l0 : Nat} {l1 : Int32} {l2 : Int32} {μ : MS} {z : Int32 × MS} (hf : f_X12_isCode l0 l1 l2 μ = some z) : Met l yX12_isCode (.code yX12_isCode cX12_isCode 3 (some .boolean) :: GW) rmX12_isCode (Pw D cy b [.ref (b + l0), .int l1, .int l2] μ) (Qw D cy b (some (.int z.1)) (z.2)) rmX12_isCode.cells rmX12_isCode.slots (fun q => b ≤ q) :=
  met_of (by decide) (Nat.le_of_ble_eq_true rfl) (fun X hB _ => (t_X12_isCode_0 hB hf ⟨rfl, rfl⟩))
-- PulseRemoteModel.isLength(I)Z
set_option maxHeartbeats 4000000 in
set_option maxRecDepth 100000 in
theorem t_X12_isLength_0 {X : BX} {D : va_G} {cy : Nat → ClassId} {b : Nat} {r : Option Value} {μ' : MS} (hB : BB X D cy b yX12_isLength cX12_isLength 1 (some .boolean) rmX12_isLength) {l0 : Int32} {μ : MS} {z : (Int32 × MS)} (hf : f_X12_isLength l0 μ = some z) (hk : (fun z : Int32 × MS => r = some (.int z.1) ∧ μ' = z.2) z) : WW X D cy b r μ' 1 0 0 0 [(0, .int l0)] [] μ := by
  unfold f_X12_isLength at hf
  refine r_iload_n hB 0 rfl (by decide +kernel : decode cX12_isLength 0 = .ok (.iload_n 0, 1)) rfl ?_
  refine r_bipush hB (v := 50) (by decide +kernel : decode cX12_isLength 1 = .ok (.bipush 50, 2)) (by decide +kernel) ?_
  refine r_sipush hB (v := 20000) (by decide +kernel : decode cX12_isLength 3 = .ok (.sipush 20000, 3)) (by decide +kernel) ?_
  refine r_cSi hB [.int l0, .int 50, .int 20000] [] (own := "PulseRemoteModel") rfl cmX12_in smX12_in (Or.inl ⟨rfl, k_1233⟩) (by decide) rfl rfl rfl (Nat.le_of_ble_eq_true rfl) (by decide +kernel : decode cX12_isLength 6 = .ok (.invokestatic 68, 3)) (fun z hz => m_X12_in _ _ _ _ hz) rfl hf (fun z6 hf => ?_)
  obtain ⟨hv, rfl⟩ := rZ_inv hf
  obtain ⟨rfl, rfl⟩ := hk
  exact r_zret hB hv (by decide +kernel : decode cX12_isLength 9 = .ok (.ireturn, 1))
theorem m_X12_isLength (l : Launch) (D : va_G) (cy : Nat → ClassId) (b : Nat) {l0 : Int32} {μ : MS} {z : Int32 × MS} (hf : f_X12_isLength l0 μ = some z) : Met l yX12_isLength (.code yX12_isLength cX12_isLength 1 (some .boolean) :: GW) rmX12_isLength (Pw D cy b [.int l0] μ) (Qw D cy b (some (.int z.1)) (z.2)) rmX12_isLength.cells rmX12_isLength.slots (fun q => b ≤ q) :=
  met_of (by decide) (Nat.le_of_ble_eq_true rfl) (fun X hB _ => (t_X12_isLength_0 hB hf ⟨rfl, rfl⟩))
-- PulseRemoteModel.areLengths(IIIIII)Z
set_option maxHeartbeats 4000000 in
set_option maxRecDepth 100000 in
theorem t_X12_areLengths_51 {X : BX} {D : va_G} {cy : Nat → ClassId} {b : Nat} {r : Option Value} {μ' : MS} (hB : BB X D cy b yX12_areLengths cX12_areLengths 7 (some .boolean) rmX12_areLengths) {l1 : Int32} {l2 : Int32} {l3 : Int32} {s0 : Int32} {μ : MS} {z : (Int32 × MS)} (hf : f_X12_areLengths_51 l1 l2 l3 s0 μ = some z) (hk : (fun z : Int32 × MS => r = some (.int z.1) ∧ μ' = z.2) z) : WW X D cy b r μ' 7 0 0 51 [(1, .int l1), (2, .int l2), (3, .int l3)] [.int s0] μ := by
  unfold f_X12_areLengths_51 at hf
  refine r_istore hB (by decide +kernel : decode cX12_areLengths 51 = .ok (.istore 6, 2)) (by decide) rfl ?_
  refine ww_lv (lv' := [(6, .int s0), (1, .int l1), (2, .int l2), (3, .int l3)]) rfl ?_
  refine r_iload hB 0 rfl (by decide +kernel : decode cX12_areLengths 53 = .ok (.iload 6, 2)) ?_
  refine r_if_eq hB (tgt := 83) (by decide +kernel : decode cX12_areLengths 55 = .ok (.ifCond .eq 28, 3)) (by decide) hf (fun _ hf => ?_) (fun _ hf => ?_)
  · refine r_iconst hB (v := 0) (by decide +kernel : decode cX12_areLengths 83 = .ok (.iconst 0, 1)) (by decide +kernel) ?_
    obtain rfl := Option.some.inj hf
    obtain ⟨rfl, rfl⟩ := hk
    exact r_zret hB (Or.inl rfl) (by decide +kernel : decode cX12_areLengths 84 = .ok (.ireturn, 1))
  · refine r_iload_n hB 1 rfl (by decide +kernel : decode cX12_areLengths 58 = .ok (.iload_n 1, 1)) rfl ?_
    refine r_cSi hB [.int l1] [] (own := "PulseRemoteModel") rfl cmX12_isLength smX12_isLength (Or.inl ⟨rfl, k_1262⟩) (by decide) rfl rfl rfl (Nat.le_of_ble_eq_true rfl) (by decide +kernel : decode cX12_areLengths 59 = .ok (.invokestatic 76, 3)) (fun z hz => m_X12_isLength _ _ _ _ hz) rfl hf (fun z59 hf => ?_)
    refine r_if_eq hB (tgt := 83) (by decide +kernel : decode cX12_areLengths 62 = .ok (.ifCond .eq 21, 3)) (by decide) hf (fun _ hf => ?_) (fun _ hf => ?_)
    · refine r_iconst hB (v := 0) (by decide +kernel : decode cX12_areLengths 83 = .ok (.iconst 0, 1)) (by decide +kernel) ?_
      obtain rfl := Option.some.inj hf
      obtain ⟨rfl, rfl⟩ := hk
      exact r_zret hB (Or.inl rfl) (by decide +kernel : decode cX12_areLengths 84 = .ok (.ireturn, 1))
    · refine r_iload_n hB 2 rfl (by decide +kernel : decode cX12_areLengths 65 = .ok (.iload_n 2, 1)) rfl ?_
      refine r_cSi hB [.int l2] [] (own := "PulseRemoteModel") rfl cmX12_isLength smX12_isLength (Or.inl ⟨rfl, k_1262⟩) (by decide) rfl rfl rfl (Nat.le_of_ble_eq_true rfl) (by decide +kernel : decode cX12_areLengths 66 = .ok (.invokestatic 76, 3)) (fun z hz => m_X12_isLength _ _ _ _ hz) rfl hf (fun z66 hf => ?_)
      refine r_if_eq hB (tgt := 83) (by decide +kernel : decode cX12_areLengths 69 = .ok (.ifCond .eq 14, 3)) (by decide) hf (fun _ hf => ?_) (fun _ hf => ?_)
      · refine r_iconst hB (v := 0) (by decide +kernel : decode cX12_areLengths 83 = .ok (.iconst 0, 1)) (by decide +kernel) ?_
        obtain rfl := Option.some.inj hf
        obtain ⟨rfl, rfl⟩ := hk
        exact r_zret hB (Or.inl rfl) (by decide +kernel : decode cX12_areLengths 84 = .ok (.ireturn, 1))
      · refine r_iload_n hB 3 rfl (by decide +kernel : decode cX12_areLengths 72 = .ok (.iload_n 3, 1)) rfl ?_
        refine r_cSi hB [.int l3] [] (own := "PulseRemoteModel") rfl cmX12_isLength smX12_isLength (Or.inl ⟨rfl, k_1262⟩) (by decide) rfl rfl rfl (Nat.le_of_ble_eq_true rfl) (by decide +kernel : decode cX12_areLengths 73 = .ok (.invokestatic 76, 3)) (fun z hz => m_X12_isLength _ _ _ _ hz) rfl hf (fun z73 hf => ?_)
        refine r_if_eq hB (tgt := 83) (by decide +kernel : decode cX12_areLengths 76 = .ok (.ifCond .eq 7, 3)) (by decide) hf (fun _ hf => ?_) (fun _ hf => ?_)
        · refine r_iconst hB (v := 0) (by decide +kernel : decode cX12_areLengths 83 = .ok (.iconst 0, 1)) (by decide +kernel) ?_
          obtain rfl := Option.some.inj hf
          obtain ⟨rfl, rfl⟩ := hk
          exact r_zret hB (Or.inl rfl) (by decide +kernel : decode cX12_areLengths 84 = .ok (.ireturn, 1))
        · refine r_iconst hB (v := 1) (by decide +kernel : decode cX12_areLengths 79 = .ok (.iconst 1, 1)) (by decide +kernel) ?_
          refine r_goto hB (tgt := 84) (by decide +kernel : decode cX12_areLengths 80 = .ok (.goto 4, 3)) (by decide) ?_
          obtain rfl := Option.some.inj hf
          obtain ⟨rfl, rfl⟩ := hk
          exact r_zret hB (Or.inr rfl) (by decide +kernel : decode cX12_areLengths 84 = .ok (.ireturn, 1))
set_option maxHeartbeats 4000000 in
set_option maxRecDepth 100000 in
theorem t_X12_areLengths_19 {X : BX} {D : va_G} {cy : Nat → ClassId} {b : Nat} {r : Option Value} {μ' : MS} (hB : BB X D cy b yX12_areLengths cX12_areLengths 7 (some .boolean) rmX12_areLengths) {l1 : Int32} {l2 : Int32} {l3 : Int32} {μ : MS} {z : (Int32 × MS)} (hf : f_X12_areLengths_19 l1 l2 l3 μ = some z) (hk : (fun z : Int32 × MS => r = some (.int z.1) ∧ μ' = z.2) z) : WW X D cy b r μ' 7 0 0 19 [(1, .int l1), (2, .int l2), (3, .int l3)] [] μ := by
  unfold f_X12_areLengths_19 at hf
  refine r_iconst hB (v := 0) (by decide +kernel : decode cX12_areLengths 19 = .ok (.iconst 0, 1)) (by decide +kernel) ?_
  refine r_goto hB (tgt := 51) (by decide +kernel : decode cX12_areLengths 20 = .ok (.goto 31, 3)) (by decide) ?_
  exact WW.sub [0, 1, 2] rfl (t_X12_areLengths_51 hB hf hk)
set_option maxHeartbeats 4000000 in
set_option maxRecDepth 100000 in
theorem t_X12_areLengths_50 {X : BX} {D : va_G} {cy : Nat → ClassId} {b : Nat} {r : Option Value} {μ' : MS} (hB : BB X D cy b yX12_areLengths cX12_areLengths 7 (some .boolean) rmX12_areLengths) {l1 : Int32} {l2 : Int32} {l3 : Int32} {μ : MS} {z : (Int32 × MS)} (hf : f_X12_areLengths_50 l1 l2 l3 μ = some z) (hk : (fun z : Int32 × MS => r = some (.int z.1) ∧ μ' = z.2) z) : WW X D cy b r μ' 7 0 0 50 [(1, .int l1), (2, .int l2), (3, .int l3)] [] μ := by
  unfold f_X12_areLengths_50 at hf
  refine r_iconst hB (v := 0) (by decide +kernel : decode cX12_areLengths 50 = .ok (.iconst 0, 1)) (by decide +kernel) ?_
  exact WW.sub [0, 1, 2] rfl (t_X12_areLengths_51 hB hf hk)
set_option maxHeartbeats 4000000 in
set_option maxRecDepth 100000 in
theorem t_X12_areLengths_0 {X : BX} {D : va_G} {cy : Nat → ClassId} {b : Nat} {r : Option Value} {μ' : MS} (hB : BB X D cy b yX12_areLengths cX12_areLengths 7 (some .boolean) rmX12_areLengths) {l0 : Int32} {l1 : Int32} {l2 : Int32} {l3 : Int32} {l4 : Int32} {l5 : Int32} {μ : MS} {z : (Int32 × MS)} (hf : f_X12_areLengths l0 l1 l2 l3 l4 l5 μ = some z) (hk : (fun z : Int32 × MS => r = some (.int z.1) ∧ μ' = z.2) z) : WW X D cy b r μ' 7 0 0 0 [(0, .int l0), (1, .int l1), (2, .int l2), (3, .int l3), (4, .int l4), (5, .int l5)] [] μ := by
  unfold f_X12_areLengths at hf
  refine r_iload_n hB 0 rfl (by decide +kernel : decode cX12_areLengths 0 = .ok (.iload_n 0, 1)) rfl ?_
  refine r_iconst hB (v := 2) (by decide +kernel : decode cX12_areLengths 1 = .ok (.iconst 2, 1)) (by decide +kernel) ?_
  refine r_icmp_ne hB (tgt := 23) (by decide +kernel : decode cX12_areLengths 2 = .ok (.if_icmp .ne 21, 3)) (by decide) hf (fun _ hf => ?_) (fun _ hf => ?_)
  · refine r_iload hB 4 rfl (by decide +kernel : decode cX12_areLengths 5 = .ok (.iload 4, 2)) ?_
    refine r_if_ne hB (tgt := 19) (by decide +kernel : decode cX12_areLengths 7 = .ok (.ifCond .ne 12, 3)) (by decide) hf (fun _ hf => ?_) (fun _ hf => ?_)
    · refine r_iload hB 5 rfl (by decide +kernel : decode cX12_areLengths 10 = .ok (.iload 5, 2)) ?_
      refine r_if_ne hB (tgt := 19) (by decide +kernel : decode cX12_areLengths 12 = .ok (.ifCond .ne 7, 3)) (by decide) hf (fun _ hf => ?_) (fun _ hf => ?_)
      · refine r_iconst hB (v := 1) (by decide +kernel : decode cX12_areLengths 15 = .ok (.iconst 1, 1)) (by decide +kernel) ?_
        refine r_goto hB (tgt := 51) (by decide +kernel : decode cX12_areLengths 16 = .ok (.goto 35, 3)) (by decide) ?_
        exact WW.sub [1, 2, 3] rfl (t_X12_areLengths_51 hB hf hk)
      · exact WW.sub [1, 2, 3] rfl (t_X12_areLengths_19 hB hf hk)
    · exact WW.sub [1, 2, 3] rfl (t_X12_areLengths_19 hB hf hk)
  · refine r_iload hB 4 rfl (by decide +kernel : decode cX12_areLengths 23 = .ok (.iload 4, 2)) ?_
    refine r_cSi hB [.int l4] [] (own := "PulseRemoteModel") rfl cmX12_isLength smX12_isLength (Or.inl ⟨rfl, k_1262⟩) (by decide) rfl rfl rfl (Nat.le_of_ble_eq_true rfl) (by decide +kernel : decode cX12_areLengths 25 = .ok (.invokestatic 76, 3)) (fun z hz => m_X12_isLength _ _ _ _ hz) rfl hf (fun z25 hf => ?_)
    refine r_if_eq hB (tgt := 50) (by decide +kernel : decode cX12_areLengths 28 = .ok (.ifCond .eq 22, 3)) (by decide) hf (fun _ hf => ?_) (fun _ hf => ?_)
    · exact WW.sub [1, 2, 3] rfl (t_X12_areLengths_50 hB hf hk)
    · refine r_iload hB 5 rfl (by decide +kernel : decode cX12_areLengths 31 = .ok (.iload 5, 2)) ?_
      refine r_cSi hB [.int l5] [] (own := "PulseRemoteModel") rfl cmX12_isLength smX12_isLength (Or.inl ⟨rfl, k_1262⟩) (by decide) rfl rfl rfl (Nat.le_of_ble_eq_true rfl) (by decide +kernel : decode cX12_areLengths 33 = .ok (.invokestatic 76, 3)) (fun z hz => m_X12_isLength _ _ _ _ hz) rfl hf (fun z33 hf => ?_)
      refine r_if_eq hB (tgt := 50) (by decide +kernel : decode cX12_areLengths 36 = .ok (.ifCond .eq 14, 3)) (by decide) hf (fun _ hf => ?_) (fun _ hf => ?_)
      · exact WW.sub [1, 2, 3] rfl (t_X12_areLengths_50 hB hf hk)
      · refine r_iload hB 4 rfl (by decide +kernel : decode cX12_areLengths 39 = .ok (.iload 4, 2)) ?_
        refine r_iload hB 5 rfl (by decide +kernel : decode cX12_areLengths 41 = .ok (.iload 5, 2)) ?_
        refine r_icmp_eq hB (tgt := 50) (by decide +kernel : decode cX12_areLengths 43 = .ok (.if_icmp .eq 7, 3)) (by decide) hf (fun _ hf => ?_) (fun _ hf => ?_)
        · exact WW.sub [1, 2, 3] rfl (t_X12_areLengths_50 hB hf hk)
        · refine r_iconst hB (v := 1) (by decide +kernel : decode cX12_areLengths 46 = .ok (.iconst 1, 1)) (by decide +kernel) ?_
          refine r_goto hB (tgt := 51) (by decide +kernel : decode cX12_areLengths 47 = .ok (.goto 4, 3)) (by decide) ?_
          exact WW.sub [1, 2, 3] rfl (t_X12_areLengths_51 hB hf hk)
theorem m_X12_areLengths (l : Launch) (D : va_G) (cy : Nat → ClassId) (b : Nat) {l0 : Int32} {l1 : Int32} {l2 : Int32} {l3 : Int32} {l4 : Int32} {l5 : Int32} {μ : MS} {z : Int32 × MS} (hf : f_X12_areLengths l0 l1 l2 l3 l4 l5 μ = some z) : Met l yX12_areLengths (.code yX12_areLengths cX12_areLengths 7 (some .boolean) :: GW) rmX12_areLengths (Pw D cy b [.int l0, .int l1, .int l2, .int l3, .int l4, .int l5] μ) (Qw D cy b (some (.int z.1)) (z.2)) rmX12_areLengths.cells rmX12_areLengths.slots (fun q => b ≤ q) :=
  met_of (by decide) (Nat.le_of_ble_eq_true rfl) (fun X hB _ => (t_X12_areLengths_0 hB hf ⟨rfl, rfl⟩))
-- PulseRemoteModel.addsProtocol(IIII)V
set_option maxHeartbeats 4000000 in
set_option maxRecDepth 100000 in
theorem t_X12_addsProtocol_0 {X : BX} {D : va_G} {cy : Nat → ClassId} {b : Nat} {r : Option Value} {μ' : MS} (hB : BB X D cy b yX12_addsProtocol cX12_addsProtocol 6 none rmX12_addsProtocol) {l0 : Nat} {l1 : Int32} {l2 : Int32} {l3 : Int32} {l4 : Int32} {μ : MS} {z : MS} (hf : f_X12_addsProtocol l0 l1 l2 l3 l4 μ = some z) (hk : (fun z : MS => r = none ∧ μ' = z) z) : WW X D cy b r μ' 6 0 0 0 [(0, .ref (b + l0)), (1, .int l1), (2, .int l2), (3, .int l3), (4, .int l4)] [] μ := by
  unfold f_X12_addsProtocol at hf
  refine r_aload_n hB 0 rfl (by decide +kernel : decode cX12_addsProtocol 0 = .ok (.aload_n 0, 1)) rfl ?_
  refine r_gR hB cf12 0 (by decide) (own := "PulseRemoteModel") rfl (Or.inl k_1115) (by decide +kernel) (by decide +kernel : decode cX12_addsProtocol 1 = .ok (.getfield 7, 3)) hf (fun x1 hf => ?_)
  refine r_iconst hB (v := 3) (by decide +kernel : decode cX12_addsProtocol 4 = .ok (.iconst 3, 1)) (by decide +kernel) ?_
  refine r_iald hB (by decide +kernel : decode cX12_addsProtocol 5 = .ok (.iaload, 1)) hf (fun x5 hf => ?_)
  refine r_cSi hB [.int x5] [] (own := "PulseRemoteModel") rfl cmX12_at smX12_at (Or.inl ⟨rfl, k_1244⟩) (by decide) rfl rfl rfl (Nat.le_of_ble_eq_true rfl) (by decide +kernel : decode cX12_addsProtocol 6 = .ok (.invokestatic 72, 3)) (fun z hz => m_X12_at _ _ _ _ hz) rfl hf (fun z6 hf => ?_)
  refine r_istore hB (by decide +kernel : decode cX12_addsProtocol 9 = .ok (.istore 5, 2)) (by decide) rfl ?_
  refine ww_lv (lv' := [(5, .int z6.1), (0, .ref (b + l0)), (1, .int l1), (2, .int l2), (3, .int l3), (4, .int l4)]) rfl ?_
  refine r_aload_n hB 1 rfl (by decide +kernel : decode cX12_addsProtocol 11 = .ok (.aload_n 0, 1)) rfl ?_
  refine r_gR hB cf12 0 (by decide) (own := "PulseRemoteModel") rfl (Or.inl k_1115) (by decide +kernel) (by decide +kernel : decode cX12_addsProtocol 12 = .ok (.getfield 7, 3)) hf (fun x12 hf => ?_)
  refine r_iload hB 0 rfl (by decide +kernel : decode cX12_addsProtocol 15 = .ok (.iload 5, 2)) ?_
  refine r_iconst hB (v := 0) (by decide +kernel : decode cX12_addsProtocol 17 = .ok (.iconst 0, 1)) (by decide +kernel) ?_
  refine r_iadd hB (by decide +kernel : decode cX12_addsProtocol 18 = .ok (.iadd, 1)) ?_
  refine r_iload_n hB 2 rfl (by decide +kernel : decode cX12_addsProtocol 19 = .ok (.iload_n 1, 1)) rfl ?_
  refine r_iast hB (by decide +kernel : decode cX12_addsProtocol 20 = .ok (.iastore, 1)) hf (fun m20 hf => ?_)
  refine r_aload_n hB 1 rfl (by decide +kernel : decode cX12_addsProtocol 21 = .ok (.aload_n 0, 1)) rfl ?_
  refine r_gR hB cf12 0 (by decide) (own := "PulseRemoteModel") rfl (Or.inl k_1115) (by decide +kernel) (by decide +kernel : decode cX12_addsProtocol 22 = .ok (.getfield 7, 3)) hf (fun x22 hf => ?_)
  refine r_iload hB 0 rfl (by decide +kernel : decode cX12_addsProtocol 25 = .ok (.iload 5, 2)) ?_
  refine r_bipush hB (v := 6) (by decide +kernel : decode cX12_addsProtocol 27 = .ok (.bipush 6, 2)) (by decide +kernel) ?_
  refine r_iadd hB (by decide +kernel : decode cX12_addsProtocol 29 = .ok (.iadd, 1)) ?_
  refine r_iload_n hB 3 rfl (by decide +kernel : decode cX12_addsProtocol 30 = .ok (.iload_n 2, 1)) rfl ?_
  refine r_iast hB (by decide +kernel : decode cX12_addsProtocol 31 = .ok (.iastore, 1)) hf (fun m31 hf => ?_)
  refine r_aload_n hB 1 rfl (by decide +kernel : decode cX12_addsProtocol 32 = .ok (.aload_n 0, 1)) rfl ?_
  refine r_gR hB cf12 0 (by decide) (own := "PulseRemoteModel") rfl (Or.inl k_1115) (by decide +kernel) (by decide +kernel : decode cX12_addsProtocol 33 = .ok (.getfield 7, 3)) hf (fun x33 hf => ?_)
  refine r_iload hB 0 rfl (by decide +kernel : decode cX12_addsProtocol 36 = .ok (.iload 5, 2)) ?_
  refine r_bipush hB (v := 7) (by decide +kernel : decode cX12_addsProtocol 38 = .ok (.bipush 7, 2)) (by decide +kernel) ?_
  refine r_iadd hB (by decide +kernel : decode cX12_addsProtocol 40 = .ok (.iadd, 1)) ?_
  refine r_iload_n hB 4 rfl (by decide +kernel : decode cX12_addsProtocol 41 = .ok (.iload_n 3, 1)) rfl ?_
  refine r_iast hB (by decide +kernel : decode cX12_addsProtocol 42 = .ok (.iastore, 1)) hf (fun m42 hf => ?_)
  refine r_aload_n hB 1 rfl (by decide +kernel : decode cX12_addsProtocol 43 = .ok (.aload_n 0, 1)) rfl ?_
  refine r_gR hB cf12 0 (by decide) (own := "PulseRemoteModel") rfl (Or.inl k_1115) (by decide +kernel) (by decide +kernel : decode cX12_addsProtocol 44 = .ok (.getfield 7, 3)) hf (fun x44 hf => ?_)
  refine r_iload hB 0 rfl (by decide +kernel : decode cX12_addsProtocol 47 = .ok (.iload 5, 2)) ?_
  refine r_bipush hB (v := 8) (by decide +kernel : decode cX12_addsProtocol 49 = .ok (.bipush 8, 2)) (by decide +kernel) ?_
  refine r_iadd hB (by decide +kernel : decode cX12_addsProtocol 51 = .ok (.iadd, 1)) ?_
  refine r_iload hB 5 rfl (by decide +kernel : decode cX12_addsProtocol 52 = .ok (.iload 4, 2)) ?_
  refine r_iast hB (by decide +kernel : decode cX12_addsProtocol 54 = .ok (.iastore, 1)) hf (fun m54 hf => ?_)
  refine r_aload_n hB 1 rfl (by decide +kernel : decode cX12_addsProtocol 55 = .ok (.aload_n 0, 1)) rfl ?_
  refine r_gR hB cf12 0 (by decide) (own := "PulseRemoteModel") rfl (Or.inl k_1115) (by decide +kernel) (by decide +kernel : decode cX12_addsProtocol 56 = .ok (.getfield 7, 3)) hf (fun x56 hf => ?_)
  refine r_iconst hB (v := 3) (by decide +kernel : decode cX12_addsProtocol 59 = .ok (.iconst 3, 1)) (by decide +kernel) ?_
  refine r_dup2 hB (by decide +kernel : decode cX12_addsProtocol 60 = .ok (.dup2, 1)) rfl rfl ?_
  refine r_iald hB (by decide +kernel : decode cX12_addsProtocol 61 = .ok (.iaload, 1)) hf (fun x61 hf => ?_)
  refine r_iconst hB (v := 1) (by decide +kernel : decode cX12_addsProtocol 62 = .ok (.iconst 1, 1)) (by decide +kernel) ?_
  refine r_iadd hB (by decide +kernel : decode cX12_addsProtocol 63 = .ok (.iadd, 1)) ?_
  refine r_iast hB (by decide +kernel : decode cX12_addsProtocol 64 = .ok (.iastore, 1)) hf (fun m64 hf => ?_)
  obtain rfl := Option.some.inj hf
  obtain ⟨rfl, rfl⟩ := hk
  exact r_vret hB (by decide +kernel : decode cX12_addsProtocol 65 = .ok (.return_, 1))
theorem m_X12_addsProtocol (l : Launch) (D : va_G) (cy : Nat → ClassId) (b : Nat) {l0 : Nat} {l1 : Int32} {l2 : Int32} {l3 : Int32} {l4 : Int32} {μ : MS} {z : MS} (hf : f_X12_addsProtocol l0 l1 l2 l3 l4 μ = some z) : Met l yX12_addsProtocol (.code yX12_addsProtocol cX12_addsProtocol 6 none :: GW) rmX12_addsProtocol (Pw D cy b [.ref (b + l0), .int l1, .int l2, .int l3, .int l4] μ) (Qw D cy b (none) (z)) rmX12_addsProtocol.cells rmX12_addsProtocol.slots (fun q => b ≤ q) :=
  met_of (by decide) (Nat.le_of_ble_eq_true rfl) (fun X hB _ => (t_X12_addsProtocol_0 hB hf ⟨rfl, rfl⟩))
-- PulseRemoteModel.setsLengths(IIIIII)V
set_option maxHeartbeats 4000000 in
set_option maxRecDepth 100000 in
theorem t_X12_setsLengths_0 {X : BX} {D : va_G} {cy : Nat → ClassId} {b : Nat} {r : Option Value} {μ' : MS} (hB : BB X D cy b yX12_setsLengths cX12_setsLengths 7 none rmX12_setsLengths) {l0 : Nat} {l1 : Int32} {l2 : Int32} {l3 : Int32} {l4 : Int32} {l5 : Int32} {l6 : Int32} {μ : MS} {z : MS} (hf : f_X12_setsLengths l0 l1 l2 l3 l4 l5 l6 μ = some z) (hk : (fun z : MS => r = none ∧ μ' = z) z) : WW X D cy b r μ' 7 0 0 0 [(0, .ref (b + l0)), (1, .int l1), (2, .int l2), (3, .int l3), (4, .int l4), (5, .int l5), (6, .int l6)] [] μ := by
  unfold f_X12_setsLengths at hf
  refine r_aload_n hB 0 rfl (by decide +kernel : decode cX12_setsLengths 0 = .ok (.aload_n 0, 1)) rfl ?_
  refine r_gR hB cf12 0 (by decide) (own := "PulseRemoteModel") rfl (Or.inl k_1115) (by decide +kernel) (by decide +kernel : decode cX12_setsLengths 1 = .ok (.getfield 7, 3)) hf (fun x1 hf => ?_)
  refine r_iload_n hB 1 rfl (by decide +kernel : decode cX12_setsLengths 4 = .ok (.iload_n 1, 1)) rfl ?_
  refine r_cSi hB [.int l1] [.ref (b + x1)] (own := "PulseRemoteModel") rfl cmX12_at smX12_at (Or.inl ⟨rfl, k_1244⟩) (by decide) rfl rfl rfl (Nat.le_of_ble_eq_true rfl) (by decide +kernel : decode cX12_setsLengths 5 = .ok (.invokestatic 72, 3)) (fun z hz => m_X12_at _ _ _ _ hz) rfl hf (fun z5 hf => ?_)
  refine r_iconst hB (v := 1) (by decide +kernel : decode cX12_setsLengths 8 = .ok (.iconst 1, 1)) (by decide +kernel) ?_
  refine r_iadd hB (by decide +kernel : decode cX12_setsLengths 9 = .ok (.iadd, 1)) ?_
  refine r_iload_n hB 2 rfl (by decide +kernel : decode cX12_setsLengths 10 = .ok (.iload_n 2, 1)) rfl ?_
  refine r_iast hB (by decide +kernel : decode cX12_setsLengths 11 = .ok (.iastore, 1)) hf (fun m11 hf => ?_)
  refine r_aload_n hB 0 rfl (by decide +kernel : decode cX12_setsLengths 12 = .ok (.aload_n 0, 1)) rfl ?_
  refine r_gR hB cf12 0 (by decide) (own := "PulseRemoteModel") rfl (Or.inl k_1115) (by decide +kernel) (by decide +kernel : decode cX12_setsLengths 13 = .ok (.getfield 7, 3)) hf (fun x13 hf => ?_)
  refine r_iload_n hB 1 rfl (by decide +kernel : decode cX12_setsLengths 16 = .ok (.iload_n 1, 1)) rfl ?_
  refine r_cSi hB [.int l1] [.ref (b + x13)] (own := "PulseRemoteModel") rfl cmX12_at smX12_at (Or.inl ⟨rfl, k_1244⟩) (by decide) rfl rfl rfl (Nat.le_of_ble_eq_true rfl) (by decide +kernel : decode cX12_setsLengths 17 = .ok (.invokestatic 72, 3)) (fun z hz => m_X12_at _ _ _ _ hz) rfl hf (fun z17 hf => ?_)
  refine r_iconst hB (v := 2) (by decide +kernel : decode cX12_setsLengths 20 = .ok (.iconst 2, 1)) (by decide +kernel) ?_
  refine r_iadd hB (by decide +kernel : decode cX12_setsLengths 21 = .ok (.iadd, 1)) ?_
  refine r_iload_n hB 3 rfl (by decide +kernel : decode cX12_setsLengths 22 = .ok (.iload_n 3, 1)) rfl ?_
  refine r_iast hB (by decide +kernel : decode cX12_setsLengths 23 = .ok (.iastore, 1)) hf (fun m23 hf => ?_)
  refine r_aload_n hB 0 rfl (by decide +kernel : decode cX12_setsLengths 24 = .ok (.aload_n 0, 1)) rfl ?_
  refine r_gR hB cf12 0 (by decide) (own := "PulseRemoteModel") rfl (Or.inl k_1115) (by decide +kernel) (by decide +kernel : decode cX12_setsLengths 25 = .ok (.getfield 7, 3)) hf (fun x25 hf => ?_)
  refine r_iload_n hB 1 rfl (by decide +kernel : decode cX12_setsLengths 28 = .ok (.iload_n 1, 1)) rfl ?_
  refine r_cSi hB [.int l1] [.ref (b + x25)] (own := "PulseRemoteModel") rfl cmX12_at smX12_at (Or.inl ⟨rfl, k_1244⟩) (by decide) rfl rfl rfl (Nat.le_of_ble_eq_true rfl) (by decide +kernel : decode cX12_setsLengths 29 = .ok (.invokestatic 72, 3)) (fun z hz => m_X12_at _ _ _ _ hz) rfl hf (fun z29 hf => ?_)
  refine r_iconst hB (v := 3) (by decide +kernel : decode cX12_setsLengths 32 = .ok (.iconst 3, 1)) (by decide +kernel) ?_
  refine r_iadd hB (by decide +kernel : decode cX12_setsLengths 33 = .ok (.iadd, 1)) ?_
  refine r_iload hB 4 rfl (by decide +kernel : decode cX12_setsLengths 34 = .ok (.iload 4, 2)) ?_
  refine r_iast hB (by decide +kernel : decode cX12_setsLengths 36 = .ok (.iastore, 1)) hf (fun m36 hf => ?_)
  refine r_aload_n hB 0 rfl (by decide +kernel : decode cX12_setsLengths 37 = .ok (.aload_n 0, 1)) rfl ?_
  refine r_gR hB cf12 0 (by decide) (own := "PulseRemoteModel") rfl (Or.inl k_1115) (by decide +kernel) (by decide +kernel : decode cX12_setsLengths 38 = .ok (.getfield 7, 3)) hf (fun x38 hf => ?_)
  refine r_iload_n hB 1 rfl (by decide +kernel : decode cX12_setsLengths 41 = .ok (.iload_n 1, 1)) rfl ?_
  refine r_cSi hB [.int l1] [.ref (b + x38)] (own := "PulseRemoteModel") rfl cmX12_at smX12_at (Or.inl ⟨rfl, k_1244⟩) (by decide) rfl rfl rfl (Nat.le_of_ble_eq_true rfl) (by decide +kernel : decode cX12_setsLengths 42 = .ok (.invokestatic 72, 3)) (fun z hz => m_X12_at _ _ _ _ hz) rfl hf (fun z42 hf => ?_)
  refine r_iconst hB (v := 4) (by decide +kernel : decode cX12_setsLengths 45 = .ok (.iconst 4, 1)) (by decide +kernel) ?_
  refine r_iadd hB (by decide +kernel : decode cX12_setsLengths 46 = .ok (.iadd, 1)) ?_
  refine r_iload hB 5 rfl (by decide +kernel : decode cX12_setsLengths 47 = .ok (.iload 5, 2)) ?_
  refine r_iast hB (by decide +kernel : decode cX12_setsLengths 49 = .ok (.iastore, 1)) hf (fun m49 hf => ?_)
  refine r_aload_n hB 0 rfl (by decide +kernel : decode cX12_setsLengths 50 = .ok (.aload_n 0, 1)) rfl ?_
  refine r_gR hB cf12 0 (by decide) (own := "PulseRemoteModel") rfl (Or.inl k_1115) (by decide +kernel) (by decide +kernel : decode cX12_setsLengths 51 = .ok (.getfield 7, 3)) hf (fun x51 hf => ?_)
  refine r_iload_n hB 1 rfl (by decide +kernel : decode cX12_setsLengths 54 = .ok (.iload_n 1, 1)) rfl ?_
  refine r_cSi hB [.int l1] [.ref (b + x51)] (own := "PulseRemoteModel") rfl cmX12_at smX12_at (Or.inl ⟨rfl, k_1244⟩) (by decide) rfl rfl rfl (Nat.le_of_ble_eq_true rfl) (by decide +kernel : decode cX12_setsLengths 55 = .ok (.invokestatic 72, 3)) (fun z hz => m_X12_at _ _ _ _ hz) rfl hf (fun z55 hf => ?_)
  refine r_iconst hB (v := 5) (by decide +kernel : decode cX12_setsLengths 58 = .ok (.iconst 5, 1)) (by decide +kernel) ?_
  refine r_iadd hB (by decide +kernel : decode cX12_setsLengths 59 = .ok (.iadd, 1)) ?_
  refine r_iload hB 6 rfl (by decide +kernel : decode cX12_setsLengths 60 = .ok (.iload 6, 2)) ?_
  refine r_iast hB (by decide +kernel : decode cX12_setsLengths 62 = .ok (.iastore, 1)) hf (fun m62 hf => ?_)
  obtain rfl := Option.some.inj hf
  obtain ⟨rfl, rfl⟩ := hk
  exact r_vret hB (by decide +kernel : decode cX12_setsLengths 63 = .ok (.return_, 1))
theorem m_X12_setsLengths (l : Launch) (D : va_G) (cy : Nat → ClassId) (b : Nat) {l0 : Nat} {l1 : Int32} {l2 : Int32} {l3 : Int32} {l4 : Int32} {l5 : Int32} {l6 : Int32} {μ : MS} {z : MS} (hf : f_X12_setsLengths l0 l1 l2 l3 l4 l5 l6 μ = some z) : Met l yX12_setsLengths (.code yX12_setsLengths cX12_setsLengths 7 none :: GW) rmX12_setsLengths (Pw D cy b [.ref (b + l0), .int l1, .int l2, .int l3, .int l4, .int l5, .int l6] μ) (Qw D cy b (none) (z)) rmX12_setsLengths.cells rmX12_setsLengths.slots (fun q => b ≤ q) :=
  met_of (by decide) (Nat.le_of_ble_eq_true rfl) (fun X hB _ => (t_X12_setsLengths_0 hB hf ⟨rfl, rfl⟩))
