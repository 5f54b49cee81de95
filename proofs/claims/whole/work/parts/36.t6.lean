/-! printed by wip/whole/gen.py -/
-- PulseRemoteModel.dead(III)I
set_option maxHeartbeats 4000000 in
set_option maxRecDepth 100000 in
theorem t_X12_dead_0 {X : BX} {D : va_G} {cy : Nat → ClassId} {b : Nat} {r : Option Value} {μ' : MS} (hB : BB X D cy b yX12_dead cX12_dead 3 (some .int) rmX12_dead) {l0 : Int32} {l1 : Int32} {l2 : Int32} {μ : MS} {z : (Int32 × MS)} (hf : f_X12_dead l0 l1 l2 μ = some z) (hk : (fun z : Int32 × MS => r = some (.int z.1) ∧ μ' = z.2) z) : WW X D cy b r μ' 3 0 0 0 [(0, .int l0), (1, .int l1), (2, .int l2)] [] μ := by
  unfold f_X12_dead at hf
  refine r_bipush hB (v := 80) (by decide +kernel : decode cX12_dead 0 = .ok (.bipush 80, 2)) (by decide +kernel) ?_
  refine r_iload_n hB 0 rfl (by decide +kernel : decode cX12_dead 2 = .ok (.iload_n 0, 1)) rfl ?_
  refine r_imul hB (by decide +kernel : decode cX12_dead 3 = .ok (.imul, 1)) ?_
  refine r_iconst hB (v := 2) (by decide +kernel : decode cX12_dead 4 = .ok (.iconst 2, 1)) (by decide +kernel) ?_
  refine r_iload_n hB 1 rfl (by decide +kernel : decode cX12_dead 5 = .ok (.iload_n 1, 1)) rfl ?_
  refine r_imul hB (by decide +kernel : decode cX12_dead 6 = .ok (.imul, 1)) ?_
  refine r_iadd hB (by decide +kernel : decode cX12_dead 7 = .ok (.iadd, 1)) ?_
  refine r_iload_n hB 2 rfl (by decide +kernel : decode cX12_dead 8 = .ok (.iload_n 2, 1)) rfl ?_
  refine r_iadd hB (by decide +kernel : decode cX12_dead 9 = .ok (.iadd, 1)) ?_
  obtain rfl := Option.some.inj hf
  obtain ⟨rfl, rfl⟩ := hk
  exact r_iret hB (by decide +kernel : decode cX12_dead 10 = .ok (.ireturn, 1))
theorem m_X12_dead (l : Launch) (D : va_G) (cy : Nat → ClassId) (b : Nat) {l0 : Int32} {l1 : Int32} {l2 : Int32} {μ : MS} {z : Int32 × MS} (hf : f_X12_dead l0 l1 l2 μ = some z) : Met l yX12_dead (.code yX12_dead cX12_dead 3 (some .int) :: GW) rmX12_dead (Pw D cy b [.int l0, .int l1, .int l2] μ) (Qw D cy b (some (.int z.1)) (z.2)) rmX12_dead.cells rmX12_dead.slots (fun q => b ≤ q) :=
  met_of (by decide) (Nat.le_of_ble_eq_true rfl) (fun X hB _ => (t_X12_dead_0 hB hf ⟨rfl, rfl⟩))
-- PulseRemoteModel.readsPhase(III)I
set_option maxHeartbeats 4000000 in
set_option maxRecDepth 100000 in
theorem t_X12_readsPhase_396 {X : BX} {D : va_G} {cy : Nat → ClassId} {b : Nat} {r : Option Value} {μ' : MS} (hB : BB X D cy b yX12_readsPhase cX12_readsPhase 9 (some .int) rmX12_readsPhase)  {μ : MS} {z : (Int32 × MS)} (hf : f_X12_readsPhase_396  μ = some z) (hk : (fun z : Int32 × MS => r = some (.int z.1) ∧ μ' = z.2) z) : WW X D cy b r μ' 9 0 0 396 [] [] μ := by
  unfold f_X12_readsPhase_396 at hf
  refine r_iconst hB (v := (-1)) (by decide +kernel : decode cX12_readsPhase 396 = .ok (.iconst (-1), 1)) (by decide +kernel) ?_
  obtain rfl := Option.some.inj hf
  obtain ⟨rfl, rfl⟩ := hk
  exact r_iret hB (by decide +kernel : decode cX12_readsPhase 397 = .ok (.ireturn, 1))
set_option maxHeartbeats 4000000 in
set_option maxRecDepth 100000 in
theorem t_X12_readsPhase_393 {X : BX} {D : va_G} {cy : Nat → ClassId} {b : Nat} {r : Option Value} {μ' : MS} (hB : BB X D cy b yX12_readsPhase cX12_readsPhase 9 (some .int) rmX12_readsPhase) {l0 : Nat} {l1 : Int32} {l2 : Int32} {l3 : Int32} {l4 : Int32} {l5 : Int32} {μ : MS} {z : ((Nat × Int32 × Int32 × Int32 × Int32 × Int32 × MS) ⊕ (Int32 × MS))} (hf : f_X12_readsPhase_393 l0 l1 l2 l3 l4 l5 μ = some z) (hk : (Sum.elim (fun s : Nat × Int32 × Int32 × Int32 × Int32 × Int32 × MS => WW X D cy b r μ' 9 0 0 97 [(0, .ref (b + s.1)), (1, .int s.2.1), (2, .int s.2.2.1), (3, .int s.2.2.2.1), (4, .int s.2.2.2.2.1), (5, .int s.2.2.2.2.2.1)] [] s.2.2.2.2.2.2) (fun z : Int32 × MS => r = some (.int z.1) ∧ μ' = z.2)) z) : WW X D cy b r μ' 9 0 0 393 [(0, .ref (b + l0)), (1, .int l1), (2, .int l2), (3, .int l3), (4, .int l4), (5, .int l5)] [] μ := by
  unfold f_X12_readsPhase_393 at hf
  refine r_goto hB (tgt := 97) (by decide +kernel : decode cX12_readsPhase 393 = .ok (.goto (-296), 3)) (by decide) ?_
  obtain rfl := Option.some.inj hf
  exact WW.sub [0, 1, 2, 3, 4, 5] rfl hk
set_option maxHeartbeats 4000000 in
set_option maxRecDepth 100000 in
theorem t_X12_readsPhase_181 {X : BX} {D : va_G} {cy : Nat → ClassId} {b : Nat} {r : Option Value} {μ' : MS} (hB : BB X D cy b yX12_readsPhase cX12_readsPhase 9 (some .int) rmX12_readsPhase) {l7 : Int32} {μ : MS} {z : (Int32 × MS)} (hf : f_X12_readsPhase_181 l7 μ = some z) (hk : (fun z : Int32 × MS => r = some (.int z.1) ∧ μ' = z.2) z) : WW X D cy b r μ' 9 0 0 181 [(7, .int l7)] [] μ := by
  unfold f_X12_readsPhase_181 at hf
  refine r_iload hB 0 rfl (by decide +kernel : decode cX12_readsPhase 181 = .ok (.iload 7, 2)) ?_
  obtain rfl := Option.some.inj hf
  obtain ⟨rfl, rfl⟩ := hk
  exact r_iret hB (by decide +kernel : decode cX12_readsPhase 183 = .ok (.ireturn, 1))
set_option maxHeartbeats 4000000 in
set_option maxRecDepth 100000 in
theorem t_X12_readsPhase_154_b {X : BX} {D : va_G} {cy : Nat → ClassId} {b : Nat} {r : Option Value} {μ' : MS} (hB : BB X D cy b yX12_readsPhase cX12_readsPhase 9 (some .int) rmX12_readsPhase) {l0 : Nat} {l4 : Int32} {l7 : Int32} {l8 : Int32} {μ : MS} {z : ((Nat × Int32 × Int32 × Int32 × MS) ⊕ (Int32 × MS))} (hf : f_X12_readsPhase_154_b l0 l4 l7 l8 μ = some z) (hk : (Sum.elim (fun s : Nat × Int32 × Int32 × Int32 × MS => WW X D cy b r μ' 9 0 0 154 [(0, .ref (b + s.1)), (4, .int s.2.1), (7, .int s.2.2.1), (8, .int s.2.2.2.1)] [] s.2.2.2.2) (fun z : Int32 × MS => r = some (.int z.1) ∧ μ' = z.2)) z) : WW X D cy b r μ' 9 0 0 154 [(0, .ref (b + l0)), (4, .int l4), (7, .int l7), (8, .int l8)] [] μ := by
  unfold f_X12_readsPhase_154_b at hf
  refine r_iload hB 3 rfl (by decide +kernel : decode cX12_readsPhase 154 = .ok (.iload 8, 2)) ?_
  refine r_iload hB 1 rfl (by decide +kernel : decode cX12_readsPhase 156 = .ok (.iload 4, 2)) ?_
  refine r_icmp_ge hB (tgt := 181) (by decide +kernel : decode cX12_readsPhase 158 = .ok (.if_icmp .ge 23, 3)) (by decide) hf (fun _ hf => ?_) (fun _ hf => ?_)
  · obtain ⟨_, hx0, rfl⟩ := xr_inv hf
    exact WW.sub [2] rfl (t_X12_readsPhase_181 hB hx0 hk)
  · refine r_iconst hB (v := 2) (by decide +kernel : decode cX12_readsPhase 161 = .ok (.iconst 2, 1)) (by decide +kernel) ?_
    refine r_iload hB 2 rfl (by decide +kernel : decode cX12_readsPhase 162 = .ok (.iload 7, 2)) ?_
    refine r_imul hB (by decide +kernel : decode cX12_readsPhase 164 = .ok (.imul, 1)) ?_
    refine r_aload_n hB 0 rfl (by decide +kernel : decode cX12_readsPhase 165 = .ok (.aload_n 0, 1)) rfl ?_
    refine r_gR hB cf12 24 (by decide) (own := "PulseRemoteModel") rfl (Or.inl k_1139) (by decide +kernel) (by decide +kernel : decode cX12_readsPhase 166 = .ok (.getfield 48, 3)) hf (fun x166 hf => ?_)
    refine r_iload hB 3 rfl (by decide +kernel : decode cX12_readsPhase 169 = .ok (.iload 8, 2)) ?_
    refine r_iald hB (by decide +kernel : decode cX12_readsPhase 171 = .ok (.iaload, 1)) hf (fun x171 hf => ?_)
    refine r_iadd hB (by decide +kernel : decode cX12_readsPhase 172 = .ok (.iadd, 1)) ?_
    refine r_name hf (fun v173 hf => ?_)
    refine r_istore hB (by decide +kernel : decode cX12_readsPhase 173 = .ok (.istore 7, 2)) (by decide) rfl ?_
    refine ww_lv (lv' := [(7, .int v173), (0, .ref (b + l0)), (4, .int l4), (8, .int l8)]) rfl ?_
    refine r_iincB hB 3 rfl (by decide +kernel : decode cX12_readsPhase 175 = .ok (.iinc 8 1, 3)) (w := 1) (by decide +kernel) (by decide) hf (fun v175 hf => ?_)
    refine ww_lv (lv' := [(8, .int v175), (7, .int v173), (0, .ref (b + l0)), (4, .int l4)]) rfl ?_
    refine r_goto hB (tgt := 154) (by decide +kernel : decode cX12_readsPhase 178 = .ok (.goto (-24), 3)) (by decide) ?_
    obtain rfl := Option.some.inj hf
    exact WW.sub [2, 3, 1, 0] rfl hk
set_option maxHeartbeats 4000000 in
set_option maxRecDepth 100000 in
theorem t_X12_readsPhase_154 {X : BX} {D : va_G} {cy : Nat → ClassId} {b : Nat} {r : Option Value} {μ' : MS} (hB : BB X D cy b yX12_readsPhase cX12_readsPhase 9 (some .int) rmX12_readsPhase) {l0 : Nat} {l4 : Int32} {l7 : Int32} {l8 : Int32} {μ : MS} {z : (Int32 × MS)} (hf : f_X12_readsPhase_154 l0 l4 l7 l8 μ = some z) (hk : (fun z : Int32 × MS => r = some (.int z.1) ∧ μ' = z.2) z) : WW X D cy b r μ' 9 0 0 154 [(0, .ref (b + l0)), (4, .int l4), (7, .int l7), (8, .int l8)] [] μ :=
  lp_ind (P := fun s : Nat × Int32 × Int32 × Int32 × MS => WW X D cy b r μ' 9 0 0 154 [(0, .ref (b + s.1)), (4, .int s.2.1), (7, .int s.2.2.1), (8, .int s.2.2.2.1)] [] s.2.2.2.2) (Q := (fun z : Int32 × MS => r = some (.int z.1) ∧ μ' = z.2)) (fun s z hz hk => t_X12_readsPhase_154_b hB hz hk) (l0, l4, l7, l8, μ) z hf hk
set_option maxHeartbeats 4000000 in
set_option maxRecDepth 100000 in
theorem t_X12_readsPhase_148 {X : BX} {D : va_G} {cy : Nat → ClassId} {b : Nat} {r : Option Value} {μ' : MS} (hB : BB X D cy b yX12_readsPhase cX12_readsPhase 9 (some .int) rmX12_readsPhase) {l0 : Nat} {l4 : Int32} {μ : MS} {z : (Int32 × MS)} (hf : f_X12_readsPhase_148 l0 l4 μ = some z) (hk : (fun z : Int32 × MS => r = some (.int z.1) ∧ μ' = z.2) z) : WW X D cy b r μ' 9 0 0 148 [(0, .ref (b + l0)), (4, .int l4)] [] μ := by
  unfold f_X12_readsPhase_148 at hf
  refine r_iconst hB (v := 0) (by decide +kernel : decode cX12_readsPhase 148 = .ok (.iconst 0, 1)) (by decide +kernel) ?_
  refine r_istore hB (by decide +kernel : decode cX12_readsPhase 149 = .ok (.istore 7, 2)) (by decide) rfl ?_
  refine ww_lv (lv' := [(7, .int 0), (0, .ref (b + l0)), (4, .int l4)]) rfl ?_
  refine r_iconst hB (v := 0) (by decide +kernel : decode cX12_readsPhase 151 = .ok (.iconst 0, 1)) (by decide +kernel) ?_
  refine r_istore hB (by decide +kernel : decode cX12_readsPhase 152 = .ok (.istore 8, 2)) (by decide) rfl ?_
  refine ww_lv (lv' := [(8, .int 0), (7, .int 0), (0, .ref (b + l0)), (4, .int l4)]) rfl ?_
  exact WW.sub [2, 3, 1, 0] rfl (t_X12_readsPhase_154 hB hf hk)
set_option maxHeartbeats 4000000 in
set_option maxRecDepth 100000 in
theorem t_X12_readsPhase_329 {X : BX} {D : va_G} {cy : Nat → ClassId} {b : Nat} {r : Option Value} {μ' : MS} (hB : BB X D cy b yX12_readsPhase cX12_readsPhase 9 (some .int) rmX12_readsPhase) {l0 : Nat} {l1 : Int32} {l2 : Int32} {l3 : Int32} {l4 : Int32} {l5 : Int32} {s0 : Int32} {μ : MS} {z : ((Nat × Int32 × Int32 × Int32 × Int32 × Int32 × MS) ⊕ (Int32 × MS))} (hf : f_X12_readsPhase_329 l0 l1 l2 l3 l4 l5 s0 μ = some z) (hk : (Sum.elim (fun s : Nat × Int32 × Int32 × Int32 × Int32 × Int32 × MS => WW X D cy b r μ' 9 0 0 97 [(0, .ref (b + s.1)), (1, .int s.2.1), (2, .int s.2.2.1), (3, .int s.2.2.2.1), (4, .int s.2.2.2.2.1), (5, .int s.2.2.2.2.2.1)] [] s.2.2.2.2.2.2) (fun z : Int32 × MS => r = some (.int z.1) ∧ μ' = z.2)) z) : WW X D cy b r μ' 9 0 0 329 [(0, .ref (b + l0)), (1, .int l1), (2, .int l2), (3, .int l3), (4, .int l4), (5, .int l5)] [.int s0] μ := by
  unfold f_X12_readsPhase_329 at hf
  refine r_istore hB (by decide +kernel : decode cX12_readsPhase 329 = .ok (.istore 7, 2)) (by decide) rfl ?_
  refine ww_lv (lv' := [(7, .int s0), (0, .ref (b + l0)), (1, .int l1), (2, .int l2), (3, .int l3), (4, .int l4), (5, .int l5)]) rfl ?_
  refine r_iload hB 0 rfl (by decide +kernel : decode cX12_readsPhase 331 = .ok (.iload 7, 2)) ?_
  refine r_if_lt hB (tgt := 393) (by decide +kernel : decode cX12_readsPhase 333 = .ok (.ifCond .lt 60, 3)) (by decide) hf (fun _ hf => ?_) (fun _ hf => ?_)
  · exact WW.sub [1, 2, 3, 4, 5, 6] rfl (t_X12_readsPhase_393 hB hf hk)
  · refine r_iload hB 0 rfl (by decide +kernel : decode cX12_readsPhase 336 = .ok (.iload 7, 2)) ?_
    refine r_iload_n hB 4 rfl (by decide +kernel : decode cX12_readsPhase 338 = .ok (.iload_n 3, 1)) rfl ?_
    refine r_icmp_gt hB (tgt := 393) (by decide +kernel : decode cX12_readsPhase 339 = .ok (.if_icmp .gt 54, 3)) (by decide) hf (fun _ hf => ?_) (fun _ hf => ?_)
    · exact WW.sub [1, 2, 3, 4, 5, 6] rfl (t_X12_readsPhase_393 hB hf hk)
    · refine r_aload_n hB 1 rfl (by decide +kernel : decode cX12_readsPhase 342 = .ok (.aload_n 0, 1)) rfl ?_
      refine r_gR hB cf12 23 (by decide) (own := "PulseRemoteModel") rfl (Or.inl k_1138) (by decide +kernel) (by decide +kernel : decode cX12_readsPhase 343 = .ok (.getfield 44, 3)) hf (fun x343 hf => ?_)
      refine r_iload hB 6 rfl (by decide +kernel : decode cX12_readsPhase 346 = .ok (.iload 5, 2)) ?_
      refine r_iconst hB (v := 1) (by decide +kernel : decode cX12_readsPhase 348 = .ok (.iconst 1, 1)) (by decide +kernel) ?_
      refine r_iadd hB (by decide +kernel : decode cX12_readsPhase 349 = .ok (.iadd, 1)) ?_
      refine r_iload hB 0 rfl (by decide +kernel : decode cX12_readsPhase 350 = .ok (.iload 7, 2)) ?_
      refine r_aload_n hB 1 rfl (by decide +kernel : decode cX12_readsPhase 352 = .ok (.aload_n 0, 1)) rfl ?_
      refine r_gR hB cf12 24 (by decide) (own := "PulseRemoteModel") rfl (Or.inl k_1139) (by decide +kernel) (by decide +kernel : decode cX12_readsPhase 353 = .ok (.getfield 48, 3)) hf (fun x353 hf => ?_)
      refine r_iload hB 6 rfl (by decide +kernel : decode cX12_readsPhase 356 = .ok (.iload 5, 2)) ?_
      refine r_iald hB (by decide +kernel : decode cX12_readsPhase 358 = .ok (.iaload, 1)) hf (fun x358 hf => ?_)
      refine r_cSi hB [.int (l5 + 1), .int s0, .int x358] [.ref (b + x343)] (own := "PulseRemoteModel") rfl cmX12_dead smX12_dead (Or.inl ⟨rfl, k_1473⟩) (by decide) rfl rfl rfl (Nat.le_of_ble_eq_true rfl) (by decide +kernel : decode cX12_readsPhase 359 = .ok (.invokestatic 239, 3)) (fun z hz => m_X12_dead _ _ _ _ hz) rfl hf (fun z359 hf => ?_)
      refine r_zald hB (by decide +kernel : decode cX12_readsPhase 362 = .ok (.baload, 1)) hf (fun x362 hf => ?_)
      refine r_if_ne hB (tgt := 393) (by decide +kernel : decode cX12_readsPhase 363 = .ok (.ifCond .ne 30, 3)) (by decide) hf (fun _ hf => ?_) (fun _ hf => ?_)
      · refine r_iincB hB 6 rfl (by decide +kernel : decode cX12_readsPhase 366 = .ok (.iinc 5 1, 3)) (w := 1) (by decide +kernel) (by decide) hf (fun v366 hf => ?_)
        refine ww_lv (lv' := [(5, .int v366), (7, .int s0), (0, .ref (b + l0)), (1, .int l1), (2, .int l2), (3, .int l3), (4, .int l4)]) rfl ?_
        refine r_aload_n hB 2 rfl (by decide +kernel : decode cX12_readsPhase 369 = .ok (.aload_n 0, 1)) rfl ?_
        refine r_gR hB cf12 25 (by decide) (own := "PulseRemoteModel") rfl (Or.inl k_1140) (by decide +kernel) (by decide +kernel : decode cX12_readsPhase 370 = .ok (.getfield 51, 3)) hf (fun x370 hf => ?_)
        refine r_iload hB 0 rfl (by decide +kernel : decode cX12_readsPhase 373 = .ok (.iload 5, 2)) ?_
        refine r_iload hB 1 rfl (by decide +kernel : decode cX12_readsPhase 375 = .ok (.iload 7, 2)) ?_
        refine r_iast hB (by decide +kernel : decode cX12_readsPhase 377 = .ok (.iastore, 1)) hf (fun m377 hf => ?_)
        refine r_iload hB 0 rfl (by decide +kernel : decode cX12_readsPhase 378 = .ok (.iload 5, 2)) ?_
        refine r_iload hB 6 rfl (by decide +kernel : decode cX12_readsPhase 380 = .ok (.iload 4, 2)) ?_
        refine r_icmp_ge hB (tgt := 393) (by decide +kernel : decode cX12_readsPhase 382 = .ok (.if_icmp .ge 11, 3)) (by decide) hf (fun _ hf => ?_) (fun _ hf => ?_)
        · exact WW.sub [2, 3, 4, 5, 6, 0] rfl (t_X12_readsPhase_393 hB hf hk)
        · refine r_aload_n hB 2 rfl (by decide +kernel : decode cX12_readsPhase 385 = .ok (.aload_n 0, 1)) rfl ?_
          refine r_gR hB cf12 24 (by decide) (own := "PulseRemoteModel") rfl (Or.inl k_1139) (by decide +kernel) (by decide +kernel : decode cX12_readsPhase 386 = .ok (.getfield 48, 3)) hf (fun x386 hf => ?_)
          refine r_iload hB 0 rfl (by decide +kernel : decode cX12_readsPhase 389 = .ok (.iload 5, 2)) ?_
          refine r_iconst hB (v := (-1)) (by decide +kernel : decode cX12_readsPhase 391 = .ok (.iconst (-1), 1)) (by decide +kernel) ?_
          refine r_iast hB (by decide +kernel : decode cX12_readsPhase 392 = .ok (.iastore, 1)) hf (fun m392 hf => ?_)
          exact WW.sub [2, 3, 4, 5, 6, 0] rfl (t_X12_readsPhase_393 hB hf hk)
      · exact WW.sub [1, 2, 3, 4, 5, 6] rfl (t_X12_readsPhase_393 hB hf hk)
set_option maxHeartbeats 4000000 in
set_option maxRecDepth 100000 in
theorem t_X12_readsPhase_301 {X : BX} {D : va_G} {cy : Nat → ClassId} {b : Nat} {r : Option Value} {μ' : MS} (hB : BB X D cy b yX12_readsPhase cX12_readsPhase 9 (some .int) rmX12_readsPhase) {l0 : Nat} {l1 : Int32} {l2 : Int32} {l3 : Int32} {l4 : Int32} {l5 : Int32} {l6 : Int32} {μ : MS} {z : ((Nat × Int32 × Int32 × Int32 × Int32 × Int32 × MS) ⊕ (Int32 × MS))} (hf : f_X12_readsPhase_301 l0 l1 l2 l3 l4 l5 l6 μ = some z) (hk : (Sum.elim (fun s : Nat × Int32 × Int32 × Int32 × Int32 × Int32 × MS => WW X D cy b r μ' 9 0 0 97 [(0, .ref (b + s.1)), (1, .int s.2.1), (2, .int s.2.2.1), (3, .int s.2.2.2.1), (4, .int s.2.2.2.2.1), (5, .int s.2.2.2.2.2.1)] [] s.2.2.2.2.2.2) (fun z : Int32 × MS => r = some (.int z.1) ∧ μ' = z.2)) z) : WW X D cy b r μ' 9 0 0 301 [(0, .ref (b + l0)), (1, .int l1), (2, .int l2), (3, .int l3), (4, .int l4), (5, .int l5), (6, .int l6)] [] μ := by
  unfold f_X12_readsPhase_301 at hf
  refine r_aload_n hB 0 rfl (by decide +kernel : decode cX12_readsPhase 301 = .ok (.aload_n 0, 1)) rfl ?_
  refine r_iload_n hB 1 rfl (by decide +kernel : decode cX12_readsPhase 302 = .ok (.iload_n 1, 1)) rfl ?_
  refine r_iload_n hB 2 rfl (by decide +kernel : decode cX12_readsPhase 303 = .ok (.iload_n 2, 1)) rfl ?_
  refine r_iload hB 5 rfl (by decide +kernel : decode cX12_readsPhase 304 = .ok (.iload 5, 2)) ?_
  refine r_aload_n hB 0 rfl (by decide +kernel : decode cX12_readsPhase 306 = .ok (.aload_n 0, 1)) rfl ?_
  refine r_gR hB cf12 25 (by decide) (own := "PulseRemoteModel") rfl (Or.inl k_1140) (by decide +kernel) (by decide +kernel : decode cX12_readsPhase 307 = .ok (.getfield 51, 3)) hf (fun x307 hf => ?_)
  refine r_iload hB 5 rfl (by decide +kernel : decode cX12_readsPhase 310 = .ok (.iload 5, 2)) ?_
  refine r_iald hB (by decide +kernel : decode cX12_readsPhase 312 = .ok (.iaload, 1)) hf (fun x312 hf => ?_)
  refine r_iload hB 6 rfl (by decide +kernel : decode cX12_readsPhase 313 = .ok (.iload 6, 2)) ?_
  refine r_aload_n hB 0 rfl (by decide +kernel : decode cX12_readsPhase 315 = .ok (.aload_n 0, 1)) rfl ?_
  refine r_gR hB cf12 24 (by decide) (own := "PulseRemoteModel") rfl (Or.inl k_1139) (by decide +kernel) (by decide +kernel : decode cX12_readsPhase 316 = .ok (.getfield 48, 3)) hf (fun x316 hf => ?_)
  refine r_iload hB 5 rfl (by decide +kernel : decode cX12_readsPhase 319 = .ok (.iload 5, 2)) ?_
  refine r_iald hB (by decide +kernel : decode cX12_readsPhase 321 = .ok (.iaload, 1)) hf (fun x321 hf => ?_)
  refine r_cVi hB [.int l1, .int l2, .int l5, .int x312, .int l6, .int x321] [] cf12 (own := "PulseRemoteModel") rfl cmX12_goesOn imX12_goesOn (Or.inl k_1476) (by decide) rfl rfl rfl (Nat.le_of_ble_eq_true rfl) (by decide +kernel : decode cX12_readsPhase 322 = .ok (.invokevirtual 243, 3)) (fun z hz => m_X12_goesOn _ _ _ _ hz) rfl hf (fun z322 hf => ?_)
  refine r_goto hB (tgt := 329) (by decide +kernel : decode cX12_readsPhase 325 = .ok (.goto 4, 3)) (by decide) ?_
  exact WW.sub [0, 1, 2, 3, 4, 5] rfl (t_X12_readsPhase_329 hB hf hk)
set_option maxHeartbeats 4000000 in
set_option maxRecDepth 100000 in
theorem t_X12_readsPhase_328 {X : BX} {D : va_G} {cy : Nat → ClassId} {b : Nat} {r : Option Value} {μ' : MS} (hB : BB X D cy b yX12_readsPhase cX12_readsPhase 9 (some .int) rmX12_readsPhase) {l0 : Nat} {l1 : Int32} {l2 : Int32} {l3 : Int32} {l4 : Int32} {l5 : Int32} {μ : MS} {z : ((Nat × Int32 × Int32 × Int32 × Int32 × Int32 × MS) ⊕ (Int32 × MS))} (hf : f_X12_readsPhase_328 l0 l1 l2 l3 l4 l5 μ = some z) (hk : (Sum.elim (fun s : Nat × Int32 × Int32 × Int32 × Int32 × Int32 × MS => WW X D cy b r μ' 9 0 0 97 [(0, .ref (b + s.1)), (1, .int s.2.1), (2, .int s.2.2.1), (3, .int s.2.2.2.1), (4, .int s.2.2.2.2.1), (5, .int s.2.2.2.2.2.1)] [] s.2.2.2.2.2.2) (fun z : Int32 × MS => r = some (.int z.1) ∧ μ' = z.2)) z) : WW X D cy b r μ' 9 0 0 328 [(0, .ref (b + l0)), (1, .int l1), (2, .int l2), (3, .int l3), (4, .int l4), (5, .int l5)] [] μ := by
  unfold f_X12_readsPhase_328 at hf
  refine r_iconst hB (v := (-1)) (by decide +kernel : decode cX12_readsPhase 328 = .ok (.iconst (-1), 1)) (by decide +kernel) ?_
  exact WW.sub [0, 1, 2, 3, 4, 5] rfl (t_X12_readsPhase_329 hB hf hk)
set_option maxHeartbeats 4000000 in
set_option maxRecDepth 100000 in
theorem t_X12_readsPhase_120 {X : BX} {D : va_G} {cy : Nat → ClassId} {b : Nat} {r : Option Value} {μ' : MS} (hB : BB X D cy b yX12_readsPhase cX12_readsPhase 9 (some .int) rmX12_readsPhase) {l0 : Nat} {l1 : Int32} {l2 : Int32} {l3 : Int32} {l4 : Int32} {l5 : Int32} {s0 : Int32} {μ : MS} {z : ((Nat × Int32 × Int32 × Int32 × Int32 × Int32 × MS) ⊕ (Int32 × MS))} (hf : f_X12_readsPhase_120 l0 l1 l2 l3 l4 l5 s0 μ = some z) (hk : (Sum.elim (fun s : Nat × Int32 × Int32 × Int32 × Int32 × Int32 × MS => WW X D cy b r μ' 9 0 0 97 [(0, .ref (b + s.1)), (1, .int s.2.1), (2, .int s.2.2.1), (3, .int s.2.2.2.1), (4, .int s.2.2.2.2.1), (5, .int s.2.2.2.2.2.1)] [] s.2.2.2.2.2.2) (fun z : Int32 × MS => r = some (.int z.1) ∧ μ' = z.2)) z) : WW X D cy b r μ' 9 0 0 120 [(0, .ref (b + l0)), (1, .int l1), (2, .int l2), (3, .int l3), (4, .int l4), (5, .int l5)] [.int s0] μ := by
  unfold f_X12_readsPhase_120 at hf
  refine r_istore hB (by decide +kernel : decode cX12_readsPhase 120 = .ok (.istore 6, 2)) (by decide) rfl ?_
  refine ww_lv (lv' := [(6, .int s0), (0, .ref (b + l0)), (1, .int l1), (2, .int l2), (3, .int l3), (4, .int l4), (5, .int l5)]) rfl ?_
  refine r_iload hB 6 rfl (by decide +kernel : decode cX12_readsPhase 122 = .ok (.iload 5, 2)) ?_
  refine r_iload hB 5 rfl (by decide +kernel : decode cX12_readsPhase 124 = .ok (.iload 4, 2)) ?_
  refine r_icmp_ne hB (tgt := 210) (by decide +kernel : decode cX12_readsPhase 126 = .ok (.if_icmp .ne 84, 3)) (by decide) hf (fun _ hf => ?_) (fun _ hf => ?_)
  · refine r_aload_n hB 1 rfl (by decide +kernel : decode cX12_readsPhase 129 = .ok (.aload_n 0, 1)) rfl ?_
    refine r_iload_n hB 2 rfl (by decide +kernel : decode cX12_readsPhase 130 = .ok (.iload_n 1, 1)) rfl ?_
    refine r_iload_n hB 3 rfl (by decide +kernel : decode cX12_readsPhase 131 = .ok (.iload_n 2, 1)) rfl ?_
    refine r_iload_n hB 4 rfl (by decide +kernel : decode cX12_readsPhase 132 = .ok (.iload_n 3, 1)) rfl ?_
    refine r_aload_n hB 1 rfl (by decide +kernel : decode cX12_readsPhase 133 = .ok (.aload_n 0, 1)) rfl ?_
    refine r_gR hB cf12 25 (by decide) (own := "PulseRemoteModel") rfl (Or.inl k_1140) (by decide +kernel) (by decide +kernel : decode cX12_readsPhase 134 = .ok (.getfield 51, 3)) hf (fun x134 hf => ?_)
    refine r_iload hB 6 rfl (by decide +kernel : decode cX12_readsPhase 137 = .ok (.iload 5, 2)) ?_
    refine r_iald hB (by decide +kernel : decode cX12_readsPhase 139 = .ok (.iaload, 1)) hf (fun x139 hf => ?_)
    refine r_iload hB 0 rfl (by decide +kernel : decode cX12_readsPhase 140 = .ok (.iload 6, 2)) ?_
    refine r_cVi hB [.int l1, .int l2, .int l3, .int x139, .int s0] [] cf12 (own := "PulseRemoteModel") rfl cmX12_isWhole imX12_isWhole (Or.inl k_1469) (by decide) rfl rfl rfl (Nat.le_of_ble_eq_true rfl) (by decide +kernel : decode cX12_readsPhase 142 = .ok (.invokevirtual 235, 3)) (fun z hz => m_X12_isWhole _ _ _ _ hz) rfl hf (fun z142 hf => ?_)
    refine r_if_eq hB (tgt := 184) (by decide +kernel : decode cX12_readsPhase 145 = .ok (.ifCond .eq 39, 3)) (by decide) hf (fun _ hf => ?_) (fun _ hf => ?_)
    · refine r_aload_n hB 1 rfl (by decide +kernel : decode cX12_readsPhase 184 = .ok (.aload_n 0, 1)) rfl ?_
      refine r_gR hB cf12 23 (by decide) (own := "PulseRemoteModel") rfl (Or.inl k_1138) (by decide +kernel) (by decide +kernel : decode cX12_readsPhase 185 = .ok (.getfield 44, 3)) hf (fun x185 hf => ?_)
      refine r_iload hB 6 rfl (by decide +kernel : decode cX12_readsPhase 188 = .ok (.iload 5, 2)) ?_
      refine r_aload_n hB 1 rfl (by decide +kernel : decode cX12_readsPhase 190 = .ok (.aload_n 0, 1)) rfl ?_
      refine r_gR hB cf12 25 (by decide) (own := "PulseRemoteModel") rfl (Or.inl k_1140) (by decide +kernel) (by decide +kernel : decode cX12_readsPhase 191 = .ok (.getfield 51, 3)) hf (fun x191 hf => ?_)
      refine r_iload hB 6 rfl (by decide +kernel : decode cX12_readsPhase 194 = .ok (.iload 5, 2)) ?_
      refine r_iald hB (by decide +kernel : decode cX12_readsPhase 196 = .ok (.iaload, 1)) hf (fun x196 hf => ?_)
      refine r_iload hB 0 rfl (by decide +kernel : decode cX12_readsPhase 197 = .ok (.iload 6, 2)) ?_
      refine r_cSi hB [.int l5, .int x196, .int s0] [.ref (b + x185)] (own := "PulseRemoteModel") rfl cmX12_dead smX12_dead (Or.inl ⟨rfl, k_1473⟩) (by decide) rfl rfl rfl (Nat.le_of_ble_eq_true rfl) (by decide +kernel : decode cX12_readsPhase 199 = .ok (.invokestatic 239, 3)) (fun z hz => m_X12_dead _ _ _ _ hz) rfl hf (fun z199 hf => ?_)
      refine r_iconst hB (v := 1) (by decide +kernel : decode cX12_readsPhase 202 = .ok (.iconst 1, 1)) (by decide +kernel) ?_
      refine r_zast hB (by decide +kernel : decode cX12_readsPhase 203 = .ok (.bastore, 1)) hf (fun m203 hf => ?_)
      refine r_iincB hB 6 rfl (by decide +kernel : decode cX12_readsPhase 204 = .ok (.iinc 5 (-1), 3)) (w := (-1)) (by decide +kernel) (by decide) hf (fun v204 hf => ?_)
      refine ww_lv (lv' := [(5, .int v204), (6, .int s0), (0, .ref (b + l0)), (1, .int l1), (2, .int l2), (3, .int l3), (4, .int l4)]) rfl ?_
      refine r_goto hB (tgt := 393) (by decide +kernel : decode cX12_readsPhase 207 = .ok (.goto 186, 3)) (by decide) ?_
      exact WW.sub [2, 3, 4, 5, 6, 0] rfl (t_X12_readsPhase_393 hB hf hk)
    · obtain ⟨_, hx0, rfl⟩ := xr_inv hf
      exact WW.sub [1, 5] rfl (t_X12_readsPhase_148 hB hx0 hk)
  · refine r_aload_n hB 1 rfl (by decide +kernel : decode cX12_readsPhase 210 = .ok (.aload_n 0, 1)) rfl ?_
    refine r_gR hB cf12 24 (by decide) (own := "PulseRemoteModel") rfl (Or.inl k_1139) (by decide +kernel) (by decide +kernel : decode cX12_readsPhase 211 = .ok (.getfield 48, 3)) hf (fun x211 hf => ?_)
    refine r_iload hB 6 rfl (by decide +kernel : decode cX12_readsPhase 214 = .ok (.iload 5, 2)) ?_
    refine r_iald hB (by decide +kernel : decode cX12_readsPhase 216 = .ok (.iaload, 1)) hf (fun x216 hf => ?_)
    refine r_iconst hB (v := 1) (by decide +kernel : decode cX12_readsPhase 217 = .ok (.iconst 1, 1)) (by decide +kernel) ?_
    refine r_icmp_ne hB (tgt := 247) (by decide +kernel : decode cX12_readsPhase 218 = .ok (.if_icmp .ne 29, 3)) (by decide) hf (fun _ hf => ?_) (fun _ hf => ?_)
    · refine r_aload_n hB 1 rfl (by decide +kernel : decode cX12_readsPhase 221 = .ok (.aload_n 0, 1)) rfl ?_
      refine r_gR hB cf12 23 (by decide) (own := "PulseRemoteModel") rfl (Or.inl k_1138) (by decide +kernel) (by decide +kernel : decode cX12_readsPhase 222 = .ok (.getfield 44, 3)) hf (fun x222 hf => ?_)
      refine r_iload hB 6 rfl (by decide +kernel : decode cX12_readsPhase 225 = .ok (.iload 5, 2)) ?_
      refine r_aload_n hB 1 rfl (by decide +kernel : decode cX12_readsPhase 227 = .ok (.aload_n 0, 1)) rfl ?_
      refine r_gR hB cf12 25 (by decide) (own := "PulseRemoteModel") rfl (Or.inl k_1140) (by decide +kernel) (by decide +kernel : decode cX12_readsPhase 228 = .ok (.getfield 51, 3)) hf (fun x228 hf => ?_)
      refine r_iload hB 6 rfl (by decide +kernel : decode cX12_readsPhase 231 = .ok (.iload 5, 2)) ?_
      refine r_iald hB (by decide +kernel : decode cX12_readsPhase 233 = .ok (.iaload, 1)) hf (fun x233 hf => ?_)
      refine r_iload hB 0 rfl (by decide +kernel : decode cX12_readsPhase 234 = .ok (.iload 6, 2)) ?_
      refine r_cSi hB [.int l5, .int x233, .int s0] [.ref (b + x222)] (own := "PulseRemoteModel") rfl cmX12_dead smX12_dead (Or.inl ⟨rfl, k_1473⟩) (by decide) rfl rfl rfl (Nat.le_of_ble_eq_true rfl) (by decide +kernel : decode cX12_readsPhase 236 = .ok (.invokestatic 239, 3)) (fun z hz => m_X12_dead _ _ _ _ hz) rfl hf (fun z236 hf => ?_)
      refine r_iconst hB (v := 1) (by decide +kernel : decode cX12_readsPhase 239 = .ok (.iconst 1, 1)) (by decide +kernel) ?_
      refine r_zast hB (by decide +kernel : decode cX12_readsPhase 240 = .ok (.bastore, 1)) hf (fun m240 hf => ?_)
      refine r_iincB hB 6 rfl (by decide +kernel : decode cX12_readsPhase 241 = .ok (.iinc 5 (-1), 3)) (w := (-1)) (by decide +kernel) (by decide) hf (fun v241 hf => ?_)
      refine ww_lv (lv' := [(5, .int v241), (6, .int s0), (0, .ref (b + l0)), (1, .int l1), (2, .int l2), (3, .int l3), (4, .int l4)]) rfl ?_
      refine r_goto hB (tgt := 393) (by decide +kernel : decode cX12_readsPhase 244 = .ok (.goto 149, 3)) (by decide) ?_
      exact WW.sub [2, 3, 4, 5, 6, 0] rfl (t_X12_readsPhase_393 hB hf hk)
    · refine r_aload_n hB 1 rfl (by decide +kernel : decode cX12_readsPhase 247 = .ok (.aload_n 0, 1)) rfl ?_
      refine r_gR hB cf12 24 (by decide) (own := "PulseRemoteModel") rfl (Or.inl k_1139) (by decide +kernel) (by decide +kernel : decode cX12_readsPhase 248 = .ok (.getfield 48, 3)) hf (fun x248 hf => ?_)
      refine r_iload hB 6 rfl (by decide +kernel : decode cX12_readsPhase 251 = .ok (.iload 5, 2)) ?_
      refine r_dup2 hB (by decide +kernel : decode cX12_readsPhase 253 = .ok (.dup2, 1)) rfl rfl ?_
      refine r_iald hB (by decide +kernel : decode cX12_readsPhase 254 = .ok (.iaload, 1)) hf (fun x254 hf => ?_)
      refine r_iconst hB (v := 1) (by decide +kernel : decode cX12_readsPhase 255 = .ok (.iconst 1, 1)) (by decide +kernel) ?_
      refine r_iadd hB (by decide +kernel : decode cX12_readsPhase 256 = .ok (.iadd, 1)) ?_
      refine r_iast hB (by decide +kernel : decode cX12_readsPhase 257 = .ok (.iastore, 1)) hf (fun m257 hf => ?_)
      refine r_aload_n hB 1 rfl (by decide +kernel : decode cX12_readsPhase 258 = .ok (.aload_n 0, 1)) rfl ?_
      refine r_gR hB cf12 25 (by decide) (own := "PulseRemoteModel") rfl (Or.inl k_1140) (by decide +kernel) (by decide +kernel : decode cX12_readsPhase 259 = .ok (.getfield 51, 3)) hf (fun x259 hf => ?_)
      refine r_iload hB 6 rfl (by decide +kernel : decode cX12_readsPhase 262 = .ok (.iload 5, 2)) ?_
      refine r_iald hB (by decide +kernel : decode cX12_readsPhase 264 = .ok (.iaload, 1)) hf (fun x264 hf => ?_)
      refine r_iconst hB (v := 1) (by decide +kernel : decode cX12_readsPhase 265 = .ok (.iconst 1, 1)) (by decide +kernel) ?_
      refine r_iadd hB (by decide +kernel : decode cX12_readsPhase 266 = .ok (.iadd, 1)) ?_
      refine r_iload_n hB 4 rfl (by decide +kernel : decode cX12_readsPhase 267 = .ok (.iload_n 3, 1)) rfl ?_
      refine r_icmp_lt hB (tgt := 301) (by decide +kernel : decode cX12_readsPhase 268 = .ok (.if_icmp .lt 33, 3)) (by decide) hf (fun _ hf => ?_) (fun _ hf => ?_)
      · exact WW.sub [1, 2, 3, 4, 5, 6, 0] rfl (t_X12_readsPhase_301 hB hf hk)
      · refine r_aload_n hB 1 rfl (by decide +kernel : decode cX12_readsPhase 271 = .ok (.aload_n 0, 1)) rfl ?_
        refine r_gR hB cf12 25 (by decide) (own := "PulseRemoteModel") rfl (Or.inl k_1140) (by decide +kernel) (by decide +kernel : decode cX12_readsPhase 272 = .ok (.getfield 51, 3)) hf (fun x272 hf => ?_)
        refine r_iload hB 6 rfl (by decide +kernel : decode cX12_readsPhase 275 = .ok (.iload 5, 2)) ?_
        refine r_iald hB (by decide +kernel : decode cX12_readsPhase 277 = .ok (.iaload, 1)) hf (fun x277 hf => ?_)
        refine r_iconst hB (v := 1) (by decide +kernel : decode cX12_readsPhase 278 = .ok (.iconst 1, 1)) (by decide +kernel) ?_
        refine r_iadd hB (by decide +kernel : decode cX12_readsPhase 279 = .ok (.iadd, 1)) ?_
        refine r_iload_n hB 4 rfl (by decide +kernel : decode cX12_readsPhase 280 = .ok (.iload_n 3, 1)) rfl ?_
        refine r_icmp_ne hB (tgt := 328) (by decide +kernel : decode cX12_readsPhase 281 = .ok (.if_icmp .ne 47, 3)) (by decide) hf (fun _ hf => ?_) (fun _ hf => ?_)
        · refine r_iload hB 6 rfl (by decide +kernel : decode cX12_readsPhase 284 = .ok (.iload 5, 2)) ?_
          refine r_if_le hB (tgt := 328) (by decide +kernel : decode cX12_readsPhase 286 = .ok (.ifCond .le 42, 3)) (by decide) hf (fun _ hf => ?_) (fun _ hf => ?_)
          · exact WW.sub [1, 2, 3, 4, 5, 6] rfl (t_X12_readsPhase_328 hB hf hk)
          · refine r_iload hB 0 rfl (by decide +kernel : decode cX12_readsPhase 289 = .ok (.iload 6, 2)) ?_
            refine r_aload_n hB 1 rfl (by decide +kernel : decode cX12_readsPhase 291 = .ok (.aload_n 0, 1)) rfl ?_
            refine r_gR hB cf12 24 (by decide) (own := "PulseRemoteModel") rfl (Or.inl k_1139) (by decide +kernel) (by decide +kernel : decode cX12_readsPhase 292 = .ok (.getfield 48, 3)) hf (fun x292 hf => ?_)
            refine r_iload hB 6 rfl (by decide +kernel : decode cX12_readsPhase 295 = .ok (.iload 5, 2)) ?_
            refine r_iald hB (by decide +kernel : decode cX12_readsPhase 297 = .ok (.iaload, 1)) hf (fun x297 hf => ?_)
            refine r_icmp_eq hB (tgt := 328) (by decide +kernel : decode cX12_readsPhase 298 = .ok (.if_icmp .eq 30, 3)) (by decide) hf (fun _ hf => ?_) (fun _ hf => ?_)
            · exact WW.sub [1, 2, 3, 4, 5, 6] rfl (t_X12_readsPhase_328 hB hf hk)
            · exact WW.sub [1, 2, 3, 4, 5, 6, 0] rfl (t_X12_readsPhase_301 hB hf hk)
        · exact WW.sub [1, 2, 3, 4, 5, 6] rfl (t_X12_readsPhase_328 hB hf hk)
set_option maxHeartbeats 4000000 in
set_option maxRecDepth 100000 in
theorem t_X12_readsPhase_97_b {X : BX} {D : va_G} {cy : Nat → ClassId} {b : Nat} {r : Option Value} {μ' : MS} (hB : BB X D cy b yX12_readsPhase cX12_readsPhase 9 (some .int) rmX12_readsPhase) {l0 : Nat} {l1 : Int32} {l2 : Int32} {l3 : Int32} {l4 : Int32} {l5 : Int32} {μ : MS} {z : ((Nat × Int32 × Int32 × Int32 × Int32 × Int32 × MS) ⊕ (Int32 × MS))} (hf : f_X12_readsPhase_97_b l0 l1 l2 l3 l4 l5 μ = some z) (hk : (Sum.elim (fun s : Nat × Int32 × Int32 × Int32 × Int32 × Int32 × MS => WW X D cy b r μ' 9 0 0 97 [(0, .ref (b + s.1)), (1, .int s.2.1), (2, .int s.2.2.1), (3, .int s.2.2.2.1), (4, .int s.2.2.2.2.1), (5, .int s.2.2.2.2.2.1)] [] s.2.2.2.2.2.2) (fun z : Int32 × MS => r = some (.int z.1) ∧ μ' = z.2)) z) : WW X D cy b r μ' 9 0 0 97 [(0, .ref (b + l0)), (1, .int l1), (2, .int l2), (3, .int l3), (4, .int l4), (5, .int l5)] [] μ := by
  unfold f_X12_readsPhase_97_b at hf
  refine r_iload hB 5 rfl (by decide +kernel : decode cX12_readsPhase 97 = .ok (.iload 5, 2)) ?_
  refine r_if_lt hB (tgt := 396) (by decide +kernel : decode cX12_readsPhase 99 = .ok (.ifCond .lt 297, 3)) (by decide) hf (fun _ hf => ?_) (fun _ hf => ?_)
  · obtain ⟨_, hx0, rfl⟩ := xr_inv hf
    exact WW.sub [] rfl (t_X12_readsPhase_396 hB hx0 hk)
  · refine r_iload hB 5 rfl (by decide +kernel : decode cX12_readsPhase 102 = .ok (.iload 5, 2)) ?_
    refine r_if_ne hB (tgt := 111) (by decide +kernel : decode cX12_readsPhase 104 = .ok (.ifCond .ne 7, 3)) (by decide) hf (fun _ hf => ?_) (fun _ hf => ?_)
    · refine r_iconst hB (v := 0) (by decide +kernel : decode cX12_readsPhase 107 = .ok (.iconst 0, 1)) (by decide +kernel) ?_
      refine r_goto hB (tgt := 120) (by decide +kernel : decode cX12_readsPhase 108 = .ok (.goto 12, 3)) (by decide) ?_
      exact WW.sub [0, 1, 2, 3, 4, 5] rfl (t_X12_readsPhase_120 hB hf hk)
    · refine r_aload_n hB 0 rfl (by decide +kernel : decode cX12_readsPhase 111 = .ok (.aload_n 0, 1)) rfl ?_
      refine r_gR hB cf12 24 (by decide) (own := "PulseRemoteModel") rfl (Or.inl k_1139) (by decide +kernel) (by decide +kernel : decode cX12_readsPhase 112 = .ok (.getfield 48, 3)) hf (fun x112 hf => ?_)
      refine r_iload hB 5 rfl (by decide +kernel : decode cX12_readsPhase 115 = .ok (.iload 5, 2)) ?_
      refine r_iconst hB (v := 1) (by decide +kernel : decode cX12_readsPhase 117 = .ok (.iconst 1, 1)) (by decide +kernel) ?_
      refine r_isub hB (by decide +kernel : decode cX12_readsPhase 118 = .ok (.isub, 1)) ?_
      refine r_iald hB (by decide +kernel : decode cX12_readsPhase 119 = .ok (.iaload, 1)) hf (fun x119 hf => ?_)
      exact WW.sub [0, 1, 2, 3, 4, 5] rfl (t_X12_readsPhase_120 hB hf hk)
set_option maxHeartbeats 4000000 in
set_option maxRecDepth 100000 in
theorem t_X12_readsPhase_97 {X : BX} {D : va_G} {cy : Nat → ClassId} {b : Nat} {r : Option Value} {μ' : MS} (hB : BB X D cy b yX12_readsPhase cX12_readsPhase 9 (some .int) rmX12_readsPhase) {l0 : Nat} {l1 : Int32} {l2 : Int32} {l3 : Int32} {l4 : Int32} {l5 : Int32} {μ : MS} {z : (Int32 × MS)} (hf : f_X12_readsPhase_97 l0 l1 l2 l3 l4 l5 μ = some z) (hk : (fun z : Int32 × MS => r = some (.int z.1) ∧ μ' = z.2) z) : WW X D cy b r μ' 9 0 0 97 [(0, .ref (b + l0)), (1, .int l1), (2, .int l2), (3, .int l3), (4, .int l4), (5, .int l5)] [] μ :=
  lp_ind (P := fun s : Nat × Int32 × Int32 × Int32 × Int32 × Int32 × MS => WW X D cy b r μ' 9 0 0 97 [(0, .ref (b + s.1)), (1, .int s.2.1), (2, .int s.2.2.1), (3, .int s.2.2.2.1), (4, .int s.2.2.2.2.1), (5, .int s.2.2.2.2.2.1)] [] s.2.2.2.2.2.2) (Q := (fun z : Int32 × MS => r = some (.int z.1) ∧ μ' = z.2)) (fun s z hz hk => t_X12_readsPhase_97_b hB hz hk) (l0, l1, l2, l3, l4, l5, μ) z hf hk
set_option maxHeartbeats 4000000 in
set_option maxRecDepth 100000 in
theorem t_X12_readsPhase_39 {X : BX} {D : va_G} {cy : Nat → ClassId} {b : Nat} {r : Option Value} {μ' : MS} (hB : BB X D cy b yX12_readsPhase cX12_readsPhase 9 (some .int) rmX12_readsPhase) {l0 : Nat} {l1 : Int32} {l2 : Int32} {l3 : Int32} {l4 : Int32} {μ : MS} {z : (Int32 × MS)} (hf : f_X12_readsPhase_39 l0 l1 l2 l3 l4 μ = some z) (hk : (fun z : Int32 × MS => r = some (.int z.1) ∧ μ' = z.2) z) : WW X D cy b r μ' 9 0 0 39 [(0, .ref (b + l0)), (1, .int l1), (2, .int l2), (3, .int l3), (4, .int l4)] [] μ := by
  unfold f_X12_readsPhase_39 at hf
  refine r_iload_n hB 3 rfl (by decide +kernel : decode cX12_readsPhase 39 = .ok (.iload_n 3, 1)) rfl ?_
  refine r_iconst hB (v := 3) (by decide +kernel : decode cX12_readsPhase 40 = .ok (.iconst 3, 1)) (by decide +kernel) ?_
  refine r_icmp_lt hB (tgt := 78) (by decide +kernel : decode cX12_readsPhase 41 = .ok (.if_icmp .lt 37, 3)) (by decide) hf (fun _ hf => ?_) (fun _ hf => ?_)
  · refine r_iconst hB (v := (-1)) (by decide +kernel : decode cX12_readsPhase 78 = .ok (.iconst (-1), 1)) (by decide +kernel) ?_
    obtain rfl := Option.some.inj hf
    obtain ⟨rfl, rfl⟩ := hk
    exact r_iret hB (by decide +kernel : decode cX12_readsPhase 79 = .ok (.ireturn, 1))
  · refine r_iload_n hB 3 rfl (by decide +kernel : decode cX12_readsPhase 44 = .ok (.iload_n 3, 1)) rfl ?_
    refine r_iconst hB (v := 2) (by decide +kernel : decode cX12_readsPhase 45 = .ok (.iconst 2, 1)) (by decide +kernel) ?_
    refine r_iload hB 4 rfl (by decide +kernel : decode cX12_readsPhase 46 = .ok (.iload 4, 2)) ?_
    refine r_imul hB (by decide +kernel : decode cX12_readsPhase 48 = .ok (.imul, 1)) ?_
    refine r_iconst hB (v := 1) (by decide +kernel : decode cX12_readsPhase 49 = .ok (.iconst 1, 1)) (by decide +kernel) ?_
    refine r_iadd hB (by decide +kernel : decode cX12_readsPhase 50 = .ok (.iadd, 1)) ?_
    refine r_icmp_gt hB (tgt := 78) (by decide +kernel : decode cX12_readsPhase 51 = .ok (.if_icmp .gt 27, 3)) (by decide) hf (fun _ hf => ?_) (fun _ hf => ?_)
    · refine r_iconst hB (v := (-1)) (by decide +kernel : decode cX12_readsPhase 78 = .ok (.iconst (-1), 1)) (by decide +kernel) ?_
      obtain rfl := Option.some.inj hf
      obtain ⟨rfl, rfl⟩ := hk
      exact r_iret hB (by decide +kernel : decode cX12_readsPhase 79 = .ok (.ireturn, 1))
    · refine r_aload_n hB 0 rfl (by decide +kernel : decode cX12_readsPhase 54 = .ok (.aload_n 0, 1)) rfl ?_
      refine r_aload_n hB 0 rfl (by decide +kernel : decode cX12_readsPhase 55 = .ok (.aload_n 0, 1)) rfl ?_
      refine r_gR hB cf12 13 (by decide) (own := "PulseRemoteModel") rfl (Or.inl k_1128) (by decide +kernel) (by decide +kernel : decode cX12_readsPhase 56 = .ok (.getfield 26, 3)) hf (fun x56 hf => ?_)
      refine r_iload_n hB 2 rfl (by decide +kernel : decode cX12_readsPhase 59 = .ok (.iload_n 2, 1)) rfl ?_
      refine r_iald hB (by decide +kernel : decode cX12_readsPhase 60 = .ok (.iaload, 1)) hf (fun x60 hf => ?_)
      refine r_aload_n hB 0 rfl (by decide +kernel : decode cX12_readsPhase 61 = .ok (.aload_n 0, 1)) rfl ?_
      refine r_gR hB cf12 0 (by decide) (own := "PulseRemoteModel") rfl (Or.inl k_1115) (by decide +kernel) (by decide +kernel : decode cX12_readsPhase 62 = .ok (.getfield 7, 3)) hf (fun x62 hf => ?_)
      refine r_iload_n hB 1 rfl (by decide +kernel : decode cX12_readsPhase 65 = .ok (.iload_n 1, 1)) rfl ?_
      refine r_cSi hB [.int l1] [.ref (b + x62), .int x60, .ref (b + l0)] (own := "PulseRemoteModel") rfl cmX12_at smX12_at (Or.inl ⟨rfl, k_1244⟩) (by decide) rfl rfl rfl (Nat.le_of_ble_eq_true rfl) (by decide +kernel : decode cX12_readsPhase 66 = .ok (.invokestatic 72, 3)) (fun z hz => m_X12_at _ _ _ _ hz) rfl hf (fun z66 hf => ?_)
      refine r_iconst hB (v := 1) (by decide +kernel : decode cX12_readsPhase 69 = .ok (.iconst 1, 1)) (by decide +kernel) ?_
      refine r_iadd hB (by decide +kernel : decode cX12_readsPhase 70 = .ok (.iadd, 1)) ?_
      refine r_iald hB (by decide +kernel : decode cX12_readsPhase 71 = .ok (.iaload, 1)) hf (fun x71 hf => ?_)
      refine r_cVi hB [.int x60, .int x71] [] cf12 (own := "PulseRemoteModel") rfl cmX12_matches imX12_matches (Or.inl k_1464) (by decide) rfl rfl rfl (Nat.le_of_ble_eq_true rfl) (by decide +kernel : decode cX12_readsPhase 72 = .ok (.invokevirtual 232, 3)) (fun z hz => m_X12_matches _ _ _ _ hz) rfl hf (fun z72 hf => ?_)
      refine r_if_ne hB (tgt := 80) (by decide +kernel : decode cX12_readsPhase 75 = .ok (.ifCond .ne 5, 3)) (by decide) hf (fun _ hf => ?_) (fun _ hf => ?_)
      · refine r_iconst hB (v := (-1)) (by decide +kernel : decode cX12_readsPhase 78 = .ok (.iconst (-1), 1)) (by decide +kernel) ?_
        obtain rfl := Option.some.inj hf
        obtain ⟨rfl, rfl⟩ := hk
        exact r_iret hB (by decide +kernel : decode cX12_readsPhase 79 = .ok (.ireturn, 1))
      · refine r_iconst hB (v := 0) (by decide +kernel : decode cX12_readsPhase 80 = .ok (.iconst 0, 1)) (by decide +kernel) ?_
        refine r_istore hB (by decide +kernel : decode cX12_readsPhase 81 = .ok (.istore 5, 2)) (by decide) rfl ?_
        refine ww_lv (lv' := [(5, .int 0), (0, .ref (b + l0)), (1, .int l1), (2, .int l2), (3, .int l3), (4, .int l4)]) rfl ?_
        refine r_aload_n hB 1 rfl (by decide +kernel : decode cX12_readsPhase 83 = .ok (.aload_n 0, 1)) rfl ?_
        refine r_gR hB cf12 24 (by decide) (own := "PulseRemoteModel") rfl (Or.inl k_1139) (by decide +kernel) (by decide +kernel : decode cX12_readsPhase 84 = .ok (.getfield 48, 3)) hf (fun x84 hf => ?_)
        refine r_iconst hB (v := 0) (by decide +kernel : decode cX12_readsPhase 87 = .ok (.iconst 0, 1)) (by decide +kernel) ?_
        refine r_iconst hB (v := (-1)) (by decide +kernel : decode cX12_readsPhase 88 = .ok (.iconst (-1), 1)) (by decide +kernel) ?_
        refine r_iast hB (by decide +kernel : decode cX12_readsPhase 89 = .ok (.iastore, 1)) hf (fun m89 hf => ?_)
        refine r_aload_n hB 1 rfl (by decide +kernel : decode cX12_readsPhase 90 = .ok (.aload_n 0, 1)) rfl ?_
        refine r_gR hB cf12 25 (by decide) (own := "PulseRemoteModel") rfl (Or.inl k_1140) (by decide +kernel) (by decide +kernel : decode cX12_readsPhase 91 = .ok (.getfield 51, 3)) hf (fun x91 hf => ?_)
        refine r_iconst hB (v := 0) (by decide +kernel : decode cX12_readsPhase 94 = .ok (.iconst 0, 1)) (by decide +kernel) ?_
        refine r_iconst hB (v := 1) (by decide +kernel : decode cX12_readsPhase 95 = .ok (.iconst 1, 1)) (by decide +kernel) ?_
        refine r_iast hB (by decide +kernel : decode cX12_readsPhase 96 = .ok (.iastore, 1)) hf (fun m96 hf => ?_)
        exact WW.sub [1, 2, 3, 4, 5, 0] rfl (t_X12_readsPhase_97 hB hf hk)
set_option maxHeartbeats 4000000 in
set_option maxRecDepth 100000 in
theorem t_X12_readsPhase_17_b {X : BX} {D : va_G} {cy : Nat → ClassId} {b : Nat} {r : Option Value} {μ' : MS} (hB : BB X D cy b yX12_readsPhase cX12_readsPhase 9 (some .int) rmX12_readsPhase) {l0 : Nat} {l1 : Int32} {l2 : Int32} {l3 : Int32} {l4 : Int32} {l5 : Int32} {μ : MS} {z : ((Nat × Int32 × Int32 × Int32 × Int32 × Int32 × MS) ⊕ (Int32 × MS))} (hf : f_X12_readsPhase_17_b l0 l1 l2 l3 l4 l5 μ = some z) (hk : (Sum.elim (fun s : Nat × Int32 × Int32 × Int32 × Int32 × Int32 × MS => WW X D cy b r μ' 9 0 0 17 [(0, .ref (b + s.1)), (1, .int s.2.1), (2, .int s.2.2.1), (3, .int s.2.2.2.1), (4, .int s.2.2.2.2.1), (5, .int s.2.2.2.2.2.1)] [] s.2.2.2.2.2.2) (fun z : Int32 × MS => r = some (.int z.1) ∧ μ' = z.2)) z) : WW X D cy b r μ' 9 0 0 17 [(0, .ref (b + l0)), (1, .int l1), (2, .int l2), (3, .int l3), (4, .int l4), (5, .int l5)] [] μ := by
  unfold f_X12_readsPhase_17_b at hf
  refine r_iload hB 5 rfl (by decide +kernel : decode cX12_readsPhase 17 = .ok (.iload 5, 2)) ?_
  refine r_sipush hB (v := 2720) (by decide +kernel : decode cX12_readsPhase 19 = .ok (.sipush 2720, 3)) (by decide +kernel) ?_
  refine r_icmp_ge hB (tgt := 39) (by decide +kernel : decode cX12_readsPhase 22 = .ok (.if_icmp .ge 17, 3)) (by decide) hf (fun _ hf => ?_) (fun _ hf => ?_)
  · obtain ⟨_, hx0, rfl⟩ := xr_inv hf
    exact WW.sub [0, 1, 2, 3, 4] rfl (t_X12_readsPhase_39 hB hx0 hk)
  · refine r_aload_n hB 0 rfl (by decide +kernel : decode cX12_readsPhase 25 = .ok (.aload_n 0, 1)) rfl ?_
    refine r_gR hB cf12 23 (by decide) (own := "PulseRemoteModel") rfl (Or.inl k_1138) (by decide +kernel) (by decide +kernel : decode cX12_readsPhase 26 = .ok (.getfield 44, 3)) hf (fun x26 hf => ?_)
    refine r_iload hB 5 rfl (by decide +kernel : decode cX12_readsPhase 29 = .ok (.iload 5, 2)) ?_
    refine r_iconst hB (v := 0) (by decide +kernel : decode cX12_readsPhase 31 = .ok (.iconst 0, 1)) (by decide +kernel) ?_
    refine r_zast hB (by decide +kernel : decode cX12_readsPhase 32 = .ok (.bastore, 1)) hf (fun m32 hf => ?_)
    refine r_iincB hB 5 rfl (by decide +kernel : decode cX12_readsPhase 33 = .ok (.iinc 5 1, 3)) (w := 1) (by decide +kernel) (by decide) hf (fun v33 hf => ?_)
    refine ww_lv (lv' := [(5, .int v33), (0, .ref (b + l0)), (1, .int l1), (2, .int l2), (3, .int l3), (4, .int l4)]) rfl ?_
    refine r_goto hB (tgt := 17) (by decide +kernel : decode cX12_readsPhase 36 = .ok (.goto (-19), 3)) (by decide) ?_
    obtain rfl := Option.some.inj hf
    exact WW.sub [1, 2, 3, 4, 5, 0] rfl hk
set_option maxHeartbeats 4000000 in
set_option maxRecDepth 100000 in
theorem t_X12_readsPhase_17 {X : BX} {D : va_G} {cy : Nat → ClassId} {b : Nat} {r : Option Value} {μ' : MS} (hB : BB X D cy b yX12_readsPhase cX12_readsPhase 9 (some .int) rmX12_readsPhase) {l0 : Nat} {l1 : Int32} {l2 : Int32} {l3 : Int32} {l4 : Int32} {l5 : Int32} {μ : MS} {z : (Int32 × MS)} (hf : f_X12_readsPhase_17 l0 l1 l2 l3 l4 l5 μ = some z) (hk : (fun z : Int32 × MS => r = some (.int z.1) ∧ μ' = z.2) z) : WW X D cy b r μ' 9 0 0 17 [(0, .ref (b + l0)), (1, .int l1), (2, .int l2), (3, .int l3), (4, .int l4), (5, .int l5)] [] μ :=
  lp_ind (P := fun s : Nat × Int32 × Int32 × Int32 × Int32 × Int32 × MS => WW X D cy b r μ' 9 0 0 17 [(0, .ref (b + s.1)), (1, .int s.2.1), (2, .int s.2.2.1), (3, .int s.2.2.2.1), (4, .int s.2.2.2.2.1), (5, .int s.2.2.2.2.2.1)] [] s.2.2.2.2.2.2) (Q := (fun z : Int32 × MS => r = some (.int z.1) ∧ μ' = z.2)) (fun s z hz hk => t_X12_readsPhase_17_b hB hz hk) (l0, l1, l2, l3, l4, l5, μ) z hf hk
set_option maxHeartbeats 4000000 in
set_option maxRecDepth 100000 in
theorem t_X12_readsPhase_0 {X : BX} {D : va_G} {cy : Nat → ClassId} {b : Nat} {r : Option Value} {μ' : MS} (hB : BB X D cy b yX12_readsPhase cX12_readsPhase 9 (some .int) rmX12_readsPhase) {l0 : Nat} {l1 : Int32} {l2 : Int32} {l3 : Int32} {μ : MS} {z : (Int32 × MS)} (hf : f_X12_readsPhase l0 l1 l2 l3 μ = some z) (hk : (fun z : Int32 × MS => r = some (.int z.1) ∧ μ' = z.2) z) : WW X D cy b r μ' 9 0 0 0 [(0, .ref (b + l0)), (1, .int l1), (2, .int l2), (3, .int l3)] [] μ := by
  unfold f_X12_readsPhase at hf
  refine r_aload_n hB 0 rfl (by decide +kernel : decode cX12_readsPhase 0 = .ok (.aload_n 0, 1)) rfl ?_
  refine r_gR hB cf12 0 (by decide) (own := "PulseRemoteModel") rfl (Or.inl k_1115) (by decide +kernel) (by decide +kernel : decode cX12_readsPhase 1 = .ok (.getfield 7, 3)) hf (fun x1 hf => ?_)
  refine r_iload_n hB 1 rfl (by decide +kernel : decode cX12_readsPhase 4 = .ok (.iload_n 1, 1)) rfl ?_
  refine r_cSi hB [.int l1] [.ref (b + x1)] (own := "PulseRemoteModel") rfl cmX12_at smX12_at (Or.inl ⟨rfl, k_1244⟩) (by decide) rfl rfl rfl (Nat.le_of_ble_eq_true rfl) (by decide +kernel : decode cX12_readsPhase 5 = .ok (.invokestatic 72, 3)) (fun z hz => m_X12_at _ _ _ _ hz) rfl hf (fun z5 hf => ?_)
  refine r_bipush hB (v := 6) (by decide +kernel : decode cX12_readsPhase 8 = .ok (.bipush 6, 2)) (by decide +kernel) ?_
  refine r_iadd hB (by decide +kernel : decode cX12_readsPhase 10 = .ok (.iadd, 1)) ?_
  refine r_iald hB (by decide +kernel : decode cX12_readsPhase 11 = .ok (.iaload, 1)) hf (fun x11 hf => ?_)
  refine r_istore hB (by decide +kernel : decode cX12_readsPhase 12 = .ok (.istore 4, 2)) (by decide) rfl ?_
  refine ww_lv (lv' := [(4, .int x11), (0, .ref (b + l0)), (1, .int l1), (2, .int l2), (3, .int l3)]) rfl ?_
  refine r_iconst hB (v := 0) (by decide +kernel : decode cX12_readsPhase 14 = .ok (.iconst 0, 1)) (by decide +kernel) ?_
  refine r_istore hB (by decide +kernel : decode cX12_readsPhase 15 = .ok (.istore 5, 2)) (by decide) rfl ?_
  refine ww_lv (lv' := [(5, .int 0), (4, .int x11), (0, .ref (b + l0)), (1, .int l1), (2, .int l2), (3, .int l3)]) rfl ?_
  exact WW.sub [2, 3, 4, 5, 1, 0] rfl (t_X12_readsPhase_17 hB hf hk)
theorem m_X12_readsPhase (l : Launch) (D : va_G) (cy : Nat → ClassId) (b : Nat) {l0 : Nat} {l1 : Int32} {l2 : Int32} {l3 : Int32} {μ : MS} {z : Int32 × MS} (hf : f_X12_readsPhase l0 l1 l2 l3 μ = some z) : Met l yX12_readsPhase (.code yX12_readsPhase cX12_readsPhase 9 (some .int) :: GW) rmX12_readsPhase (Pw D cy b [.ref (b + l0), .int l1, .int l2, .int l3] μ) (Qw D cy b (some (.int z.1)) (z.2)) rmX12_readsPhase.cells rmX12_readsPhase.slots (fun q => b ≤ q) :=
  met_of (by decide) (Nat.le_of_ble_eq_true rfl) (fun X hB _ => (t_X12_readsPhase_0 hB hf ⟨rfl, rfl⟩))
-- PulseRemoteModel.codeOf(III)I
set_option maxHeartbeats 4000000 in
set_option maxRecDepth 100000 in
theorem t_X12_codeOf_211 {X : BX} {D : va_G} {cy : Nat → ClassId} {b : Nat} {r : Option Value} {μ' : MS} (hB : BB X D cy b yX12_codeOf cX12_codeOf 8 (some .int) rmX12_codeOf) {l0 : Nat} {l1 : Int32} {l6 : Int32} {μ : MS} {z : (Int32 × MS)} (hf : f_X12_codeOf_211 l0 l1 l6 μ = some z) (hk : (fun z : Int32 × MS => r = some (.int z.1) ∧ μ' = z.2) z) : WW X D cy b r μ' 8 0 0 211 [(0, .ref (b + l0)), (1, .int l1), (6, .int l6)] [] μ := by
  unfold f_X12_codeOf_211 at hf
  refine r_iload hB 2 rfl (by decide +kernel : decode cX12_codeOf 211 = .ok (.iload 6, 2)) ?_
  refine r_if_ge hB (tgt := 220) (by decide +kernel : decode cX12_codeOf 213 = .ok (.ifCond .ge 7, 3)) (by decide) hf (fun _ hf => ?_) (fun _ hf => ?_)
  · refine r_aload_n hB 0 rfl (by decide +kernel : decode cX12_codeOf 220 = .ok (.aload_n 0, 1)) rfl ?_
    refine r_iload_n hB 1 rfl (by decide +kernel : decode cX12_codeOf 221 = .ok (.iload_n 1, 1)) rfl ?_
    refine r_iload hB 2 rfl (by decide +kernel : decode cX12_codeOf 222 = .ok (.iload 6, 2)) ?_
    refine r_cVi hB [.int l1, .int l6] [] cf12 (own := "PulseRemoteModel") rfl cmX12_ordered imX12_ordered (Or.inl k_1488) (by decide) rfl rfl rfl (Nat.le_of_ble_eq_true rfl) (by decide +kernel : decode cX12_codeOf 224 = .ok (.invokevirtual 256, 3)) (fun z hz => m_X12_ordered _ _ _ _ hz) rfl hf (fun z224 hf => ?_)
    obtain rfl := Option.some.inj hf
    obtain ⟨rfl, rfl⟩ := hk
    exact r_iret hB (by decide +kernel : decode cX12_codeOf 227 = .ok (.ireturn, 1))
  · refine r_iconst hB (v := (-1)) (by decide +kernel : decode cX12_codeOf 216 = .ok (.iconst (-1), 1)) (by decide +kernel) ?_
    refine r_goto hB (tgt := 227) (by decide +kernel : decode cX12_codeOf 217 = .ok (.goto 10, 3)) (by decide) ?_
    obtain rfl := Option.some.inj hf
    obtain ⟨rfl, rfl⟩ := hk
    exact r_iret hB (by decide +kernel : decode cX12_codeOf 227 = .ok (.ireturn, 1))
set_option maxHeartbeats 4000000 in
set_option maxRecDepth 100000 in
theorem t_X12_codeOf_209 {X : BX} {D : va_G} {cy : Nat → ClassId} {b : Nat} {r : Option Value} {μ' : MS} (hB : BB X D cy b yX12_codeOf cX12_codeOf 8 (some .int) rmX12_codeOf) {l0 : Nat} {l1 : Int32} {s0 : Int32} {μ : MS} {z : (Int32 × MS)} (hf : f_X12_codeOf_209 l0 l1 s0 μ = some z) (hk : (fun z : Int32 × MS => r = some (.int z.1) ∧ μ' = z.2) z) : WW X D cy b r μ' 8 0 0 209 [(0, .ref (b + l0)), (1, .int l1)] [.int s0] μ := by
  unfold f_X12_codeOf_209 at hf
  refine r_istore hB (by decide +kernel : decode cX12_codeOf 209 = .ok (.istore 6, 2)) (by decide) rfl ?_
  refine ww_lv (lv' := [(6, .int s0), (0, .ref (b + l0)), (1, .int l1)]) rfl ?_
  exact WW.sub [1, 2, 0] rfl (t_X12_codeOf_211 hB hf hk)
set_option maxHeartbeats 4000000 in
set_option maxRecDepth 100000 in
theorem t_X12_codeOf_202 {X : BX} {D : va_G} {cy : Nat → ClassId} {b : Nat} {r : Option Value} {μ' : MS} (hB : BB X D cy b yX12_codeOf cX12_codeOf 8 (some .int) rmX12_codeOf) {l0 : Nat} {l1 : Int32} {s0 : Int32} {s1 : Int32} {s2 : Nat} {μ : MS} {z : (Int32 × MS)} (hf : f_X12_codeOf_202 l0 l1 s0 s1 s2 μ = some z) (hk : (fun z : Int32 × MS => r = some (.int z.1) ∧ μ' = z.2) z) : WW X D cy b r μ' 8 0 0 202 [(0, .ref (b + l0)), (1, .int l1)] [.int s0, .int s1, .ref (b + s2)] μ := by
  unfold f_X12_codeOf_202 at hf
  refine r_cVi hB [.int s1, .int s0] [] cf12 (own := "PulseRemoteModel") rfl cmX12_readsBits imX12_readsBits (Or.inl k_1484) (by decide) rfl rfl rfl (Nat.le_of_ble_eq_true rfl) (by decide +kernel : decode cX12_codeOf 202 = .ok (.invokevirtual 253, 3)) (fun z hz => m_X12_readsBits _ _ _ _ hz) rfl hf (fun z202 hf => ?_)
  refine r_goto hB (tgt := 209) (by decide +kernel : decode cX12_codeOf 205 = .ok (.goto 4, 3)) (by decide) ?_
  exact WW.sub [0, 1] rfl (t_X12_codeOf_209 hB hf hk)
set_option maxHeartbeats 4000000 in
set_option maxRecDepth 100000 in
theorem t_X12_codeOf_172 {X : BX} {D : va_G} {cy : Nat → ClassId} {b : Nat} {r : Option Value} {μ' : MS} (hB : BB X D cy b yX12_codeOf cX12_codeOf 8 (some .int) rmX12_codeOf) {l0 : Nat} {l1 : Int32} {l2 : Int32} {l4 : Int32} {s0 : Int32} {μ : MS} {z : (Int32 × MS)} (hf : f_X12_codeOf_172 l0 l1 l2 l4 s0 μ = some z) (hk : (fun z : Int32 × MS => r = some (.int z.1) ∧ μ' = z.2) z) : WW X D cy b r μ' 8 0 0 172 [(0, .ref (b + l0)), (1, .int l1), (2, .int l2), (4, .int l4)] [.int s0] μ := by
  unfold f_X12_codeOf_172 at hf
  refine r_istore hB (by decide +kernel : decode cX12_codeOf 172 = .ok (.istore 7, 2)) (by decide) rfl ?_
  refine ww_lv (lv' := [(7, .int s0), (0, .ref (b + l0)), (1, .int l1), (2, .int l2), (4, .int l4)]) rfl ?_
  refine r_iload hB 0 rfl (by decide +kernel : decode cX12_codeOf 174 = .ok (.iload 7, 2)) ?_
  refine r_if_eq hB (tgt := 208) (by decide +kernel : decode cX12_codeOf 176 = .ok (.ifCond .eq 32, 3)) (by decide) hf (fun _ hf => ?_) (fun _ hf => ?_)
  · refine r_iconst hB (v := (-1)) (by decide +kernel : decode cX12_codeOf 208 = .ok (.iconst (-1), 1)) (by decide +kernel) ?_
    exact WW.sub [1, 2] rfl (t_X12_codeOf_209 hB hf hk)
  · refine r_aload_n hB 1 rfl (by decide +kernel : decode cX12_codeOf 179 = .ok (.aload_n 0, 1)) rfl ?_
    refine r_iload_n hB 2 rfl (by decide +kernel : decode cX12_codeOf 180 = .ok (.iload_n 1, 1)) rfl ?_
    refine r_aload_n hB 1 rfl (by decide +kernel : decode cX12_codeOf 181 = .ok (.aload_n 0, 1)) rfl ?_
    refine r_gR hB cf12 0 (by decide) (own := "PulseRemoteModel") rfl (Or.inl k_1115) (by decide +kernel) (by decide +kernel : decode cX12_codeOf 182 = .ok (.getfield 7, 3)) hf (fun x182 hf => ?_)
    refine r_iload hB 4 rfl (by decide +kernel : decode cX12_codeOf 185 = .ok (.iload 4, 2)) ?_
    refine r_iconst hB (v := 0) (by decide +kernel : decode cX12_codeOf 187 = .ok (.iconst 0, 1)) (by decide +kernel) ?_
    refine r_iadd hB (by decide +kernel : decode cX12_codeOf 188 = .ok (.iadd, 1)) ?_
    refine r_iald hB (by decide +kernel : decode cX12_codeOf 189 = .ok (.iaload, 1)) hf (fun x189 hf => ?_)
    refine r_if_ne hB (tgt := 199) (by decide +kernel : decode cX12_codeOf 190 = .ok (.ifCond .ne 9, 3)) (by decide) hf (fun _ hf => ?_) (fun _ hf => ?_)
    · refine r_iload_n hB 3 rfl (by decide +kernel : decode cX12_codeOf 193 = .ok (.iload_n 2, 1)) rfl ?_
      refine r_iconst hB (v := 3) (by decide +kernel : decode cX12_codeOf 194 = .ok (.iconst 3, 1)) (by decide +kernel) ?_
      refine r_iadd hB (by decide +kernel : decode cX12_codeOf 195 = .ok (.iadd, 1)) ?_
      refine r_goto hB (tgt := 202) (by decide +kernel : decode cX12_codeOf 196 = .ok (.goto 6, 3)) (by decide) ?_
      exact WW.sub [1, 2] rfl (t_X12_codeOf_202 hB hf hk)
    · refine r_iload_n hB 3 rfl (by decide +kernel : decode cX12_codeOf 199 = .ok (.iload_n 2, 1)) rfl ?_
      refine r_iconst hB (v := 2) (by decide +kernel : decode cX12_codeOf 200 = .ok (.iconst 2, 1)) (by decide +kernel) ?_
      refine r_iadd hB (by decide +kernel : decode cX12_codeOf 201 = .ok (.iadd, 1)) ?_
      exact WW.sub [1, 2] rfl (t_X12_codeOf_202 hB hf hk)
set_option maxHeartbeats 4000000 in
set_option maxRecDepth 100000 in
theorem t_X12_codeOf_171 {X : BX} {D : va_G} {cy : Nat → ClassId} {b : Nat} {r : Option Value} {μ' : MS} (hB : BB X D cy b yX12_codeOf cX12_codeOf 8 (some .int) rmX12_codeOf) {l0 : Nat} {l1 : Int32} {l2 : Int32} {l4 : Int32} {μ : MS} {z : (Int32 × MS)} (hf : f_X12_codeOf_171 l0 l1 l2 l4 μ = some z) (hk : (fun z : Int32 × MS => r = some (.int z.1) ∧ μ' = z.2) z) : WW X D cy b r μ' 8 0 0 171 [(0, .ref (b + l0)), (1, .int l1), (2, .int l2), (4, .int l4)] [] μ := by
  unfold f_X12_codeOf_171 at hf
  refine r_iconst hB (v := 0) (by decide +kernel : decode cX12_codeOf 171 = .ok (.iconst 0, 1)) (by decide +kernel) ?_
  exact WW.sub [0, 1, 2, 3] rfl (t_X12_codeOf_172 hB hf hk)
set_option maxHeartbeats 4000000 in
set_option maxRecDepth 100000 in
theorem t_X12_codeOf_149 {X : BX} {D : va_G} {cy : Nat → ClassId} {b : Nat} {r : Option Value} {μ' : MS} (hB : BB X D cy b yX12_codeOf cX12_codeOf 8 (some .int) rmX12_codeOf) {l0 : Nat} {l1 : Int32} {l2 : Int32} {l3 : Int32} {l4 : Int32} {s0 : Int32} {s1 : Nat} {μ : MS} {z : (Int32 × MS)} (hf : f_X12_codeOf_149 l0 l1 l2 l3 l4 s0 s1 μ = some z) (hk : (fun z : Int32 × MS => r = some (.int z.1) ∧ μ' = z.2) z) : WW X D cy b r μ' 8 0 0 149 [(0, .ref (b + l0)), (1, .int l1), (2, .int l2), (3, .int l3), (4, .int l4)] [.int s0, .ref (b + s1)] μ := by
  unfold f_X12_codeOf_149 at hf
  refine r_iload_n hB 2 rfl (by decide +kernel : decode cX12_codeOf 149 = .ok (.iload_n 2, 1)) rfl ?_
  refine r_iload_n hB 3 rfl (by decide +kernel : decode cX12_codeOf 150 = .ok (.iload_n 3, 1)) rfl ?_
  refine r_iadd hB (by decide +kernel : decode cX12_codeOf 151 = .ok (.iadd, 1)) ?_
  refine r_aload_n hB 0 rfl (by decide +kernel : decode cX12_codeOf 152 = .ok (.aload_n 0, 1)) rfl ?_
  refine r_gR hB cf12 0 (by decide) (own := "PulseRemoteModel") rfl (Or.inl k_1115) (by decide +kernel) (by decide +kernel : decode cX12_codeOf 153 = .ok (.getfield 7, 3)) hf (fun x153 hf => ?_)
  refine r_iload hB 4 rfl (by decide +kernel : decode cX12_codeOf 156 = .ok (.iload 4, 2)) ?_
  refine r_iconst hB (v := 3) (by decide +kernel : decode cX12_codeOf 158 = .ok (.iconst 3, 1)) (by decide +kernel) ?_
  refine r_iadd hB (by decide +kernel : decode cX12_codeOf 159 = .ok (.iadd, 1)) ?_
  refine r_iald hB (by decide +kernel : decode cX12_codeOf 160 = .ok (.iaload, 1)) hf (fun x160 hf => ?_)
  refine r_cVi hB [.int s0, .int (l2 + l3), .int x160] [] cf12 (own := "PulseRemoteModel") rfl cmX12_match imX12_match (Or.inl k_1480) (by decide) rfl rfl rfl (Nat.le_of_ble_eq_true rfl) (by decide +kernel : decode cX12_codeOf 161 = .ok (.invokevirtual 250, 3)) (fun z hz => m_X12_match _ _ _ _ hz) rfl hf (fun z161 hf => ?_)
  refine r_if_eq hB (tgt := 171) (by decide +kernel : decode cX12_codeOf 164 = .ok (.ifCond .eq 7, 3)) (by decide) hf (fun _ hf => ?_) (fun _ hf => ?_)
  · exact WW.sub [0, 1, 2, 4] rfl (t_X12_codeOf_171 hB hf hk)
  · refine r_iconst hB (v := 1) (by decide +kernel : decode cX12_codeOf 167 = .ok (.iconst 1, 1)) (by decide +kernel) ?_
    refine r_goto hB (tgt := 172) (by decide +kernel : decode cX12_codeOf 168 = .ok (.goto 4, 3)) (by decide) ?_
    exact WW.sub [0, 1, 2, 4] rfl (t_X12_codeOf_172 hB hf hk)
set_option maxHeartbeats 4000000 in
set_option maxRecDepth 100000 in
theorem t_X12_codeOf_120 {X : BX} {D : va_G} {cy : Nat → ClassId} {b : Nat} {r : Option Value} {μ' : MS} (hB : BB X D cy b yX12_codeOf cX12_codeOf 8 (some .int) rmX12_codeOf) {l0 : Nat} {l1 : Int32} {l2 : Int32} {l3 : Int32} {l4 : Int32} {s0 : Int32} {μ : MS} {z : (Int32 × MS)} (hf : f_X12_codeOf_120 l0 l1 l2 l3 l4 s0 μ = some z) (hk : (fun z : Int32 × MS => r = some (.int z.1) ∧ μ' = z.2) z) : WW X D cy b r μ' 8 0 0 120 [(0, .ref (b + l0)), (1, .int l1), (2, .int l2), (3, .int l3), (4, .int l4)] [.int s0] μ := by
  unfold f_X12_codeOf_120 at hf
  refine r_istore hB (by decide +kernel : decode cX12_codeOf 120 = .ok (.istore 7, 2)) (by decide) rfl ?_
  refine ww_lv (lv' := [(7, .int s0), (0, .ref (b + l0)), (1, .int l1), (2, .int l2), (3, .int l3), (4, .int l4)]) rfl ?_
  refine r_iload hB 0 rfl (by decide +kernel : decode cX12_codeOf 122 = .ok (.iload 7, 2)) ?_
  refine r_if_eq hB (tgt := 171) (by decide +kernel : decode cX12_codeOf 124 = .ok (.ifCond .eq 47, 3)) (by decide) hf (fun _ hf => ?_) (fun _ hf => ?_)
  · exact WW.sub [1, 2, 3, 5] rfl (t_X12_codeOf_171 hB hf hk)
  · refine r_aload_n hB 1 rfl (by decide +kernel : decode cX12_codeOf 127 = .ok (.aload_n 0, 1)) rfl ?_
    refine r_aload_n hB 1 rfl (by decide +kernel : decode cX12_codeOf 128 = .ok (.aload_n 0, 1)) rfl ?_
    refine r_gR hB cf12 0 (by decide) (own := "PulseRemoteModel") rfl (Or.inl k_1115) (by decide +kernel) (by decide +kernel : decode cX12_codeOf 129 = .ok (.getfield 7, 3)) hf (fun x129 hf => ?_)
    refine r_iload hB 5 rfl (by decide +kernel : decode cX12_codeOf 132 = .ok (.iload 4, 2)) ?_
    refine r_iconst hB (v := 0) (by decide +kernel : decode cX12_codeOf 134 = .ok (.iconst 0, 1)) (by decide +kernel) ?_
    refine r_iadd hB (by decide +kernel : decode cX12_codeOf 135 = .ok (.iadd, 1)) ?_
    refine r_iald hB (by decide +kernel : decode cX12_codeOf 136 = .ok (.iaload, 1)) hf (fun x136 hf => ?_)
    refine r_if_ne hB (tgt := 146) (by decide +kernel : decode cX12_codeOf 137 = .ok (.ifCond .ne 9, 3)) (by decide) hf (fun _ hf => ?_) (fun _ hf => ?_)
    · refine r_iload_n hB 3 rfl (by decide +kernel : decode cX12_codeOf 140 = .ok (.iload_n 2, 1)) rfl ?_
      refine r_iconst hB (v := 2) (by decide +kernel : decode cX12_codeOf 141 = .ok (.iconst 2, 1)) (by decide +kernel) ?_
      refine r_iadd hB (by decide +kernel : decode cX12_codeOf 142 = .ok (.iadd, 1)) ?_
      refine r_goto hB (tgt := 149) (by decide +kernel : decode cX12_codeOf 143 = .ok (.goto 6, 3)) (by decide) ?_
      exact WW.sub [1, 2, 3, 4, 5] rfl (t_X12_codeOf_149 hB hf hk)
    · refine r_iload_n hB 3 rfl (by decide +kernel : decode cX12_codeOf 146 = .ok (.iload_n 2, 1)) rfl ?_
      refine r_iconst hB (v := 3) (by decide +kernel : decode cX12_codeOf 147 = .ok (.iconst 3, 1)) (by decide +kernel) ?_
      refine r_iadd hB (by decide +kernel : decode cX12_codeOf 148 = .ok (.iadd, 1)) ?_
      exact WW.sub [1, 2, 3, 4, 5] rfl (t_X12_codeOf_149 hB hf hk)
set_option maxHeartbeats 4000000 in
set_option maxRecDepth 100000 in
theorem t_X12_codeOf_119 {X : BX} {D : va_G} {cy : Nat → ClassId} {b : Nat} {r : Option Value} {μ' : MS} (hB : BB X D cy b yX12_codeOf cX12_codeOf 8 (some .int) rmX12_codeOf) {l0 : Nat} {l1 : Int32} {l2 : Int32} {l3 : Int32} {l4 : Int32} {μ : MS} {z : (Int32 × MS)} (hf : f_X12_codeOf_119 l0 l1 l2 l3 l4 μ = some z) (hk : (fun z : Int32 × MS => r = some (.int z.1) ∧ μ' = z.2) z) : WW X D cy b r μ' 8 0 0 119 [(0, .ref (b + l0)), (1, .int l1), (2, .int l2), (3, .int l3), (4, .int l4)] [] μ := by
  unfold f_X12_codeOf_119 at hf
  refine r_iconst hB (v := 0) (by decide +kernel : decode cX12_codeOf 119 = .ok (.iconst 0, 1)) (by decide +kernel) ?_
  exact WW.sub [0, 1, 2, 3, 4] rfl (t_X12_codeOf_120 hB hf hk)
set_option maxHeartbeats 4000000 in
set_option maxRecDepth 100000 in
theorem t_X12_codeOf_65 {X : BX} {D : va_G} {cy : Nat → ClassId} {b : Nat} {r : Option Value} {μ' : MS} (hB : BB X D cy b yX12_codeOf cX12_codeOf 8 (some .int) rmX12_codeOf) {l0 : Nat} {l1 : Int32} {l2 : Int32} {l3 : Int32} {l4 : Int32} {s0 : Int32} {s1 : Int32} {s2 : Int32} {μ : MS} {z : (Int32 × MS)} (hf : f_X12_codeOf_65 l0 l1 l2 l3 l4 s0 s1 s2 μ = some z) (hk : (fun z : Int32 × MS => r = some (.int z.1) ∧ μ' = z.2) z) : WW X D cy b r μ' 8 0 0 65 [(0, .ref (b + l0)), (1, .int l1), (2, .int l2), (3, .int l3), (4, .int l4)] [.int s0, .int s1, .int s2] μ := by
  unfold f_X12_codeOf_65 at hf
  refine r_iadd hB (by decide +kernel : decode cX12_codeOf 65 = .ok (.iadd, 1)) ?_
  refine r_icmp_ne hB (tgt := 119) (by decide +kernel : decode cX12_codeOf 66 = .ok (.if_icmp .ne 53, 3)) (by decide) hf (fun _ hf => ?_) (fun _ hf => ?_)
  · refine r_aload_n hB 0 rfl (by decide +kernel : decode cX12_codeOf 69 = .ok (.aload_n 0, 1)) rfl ?_
    refine r_aload_n hB 0 rfl (by decide +kernel : decode cX12_codeOf 70 = .ok (.aload_n 0, 1)) rfl ?_
    refine r_gR hB cf12 13 (by decide) (own := "PulseRemoteModel") rfl (Or.inl k_1128) (by decide +kernel) (by decide +kernel : decode cX12_codeOf 71 = .ok (.getfield 26, 3)) hf (fun x71 hf => ?_)
    refine r_iload_n hB 2 rfl (by decide +kernel : decode cX12_codeOf 74 = .ok (.iload_n 2, 1)) rfl ?_
    refine r_iald hB (by decide +kernel : decode cX12_codeOf 75 = .ok (.iaload, 1)) hf (fun x75 hf => ?_)
    refine r_aload_n hB 0 rfl (by decide +kernel : decode cX12_codeOf 76 = .ok (.aload_n 0, 1)) rfl ?_
    refine r_gR hB cf12 0 (by decide) (own := "PulseRemoteModel") rfl (Or.inl k_1115) (by decide +kernel) (by decide +kernel : decode cX12_codeOf 77 = .ok (.getfield 7, 3)) hf (fun x77 hf => ?_)
    refine r_iload hB 4 rfl (by decide +kernel : decode cX12_codeOf 80 = .ok (.iload 4, 2)) ?_
    refine r_iconst hB (v := 1) (by decide +kernel : decode cX12_codeOf 82 = .ok (.iconst 1, 1)) (by decide +kernel) ?_
    refine r_iadd hB (by decide +kernel : decode cX12_codeOf 83 = .ok (.iadd, 1)) ?_
    refine r_iald hB (by decide +kernel : decode cX12_codeOf 84 = .ok (.iaload, 1)) hf (fun x84 hf => ?_)
    refine r_cVi hB [.int x75, .int x84] [] cf12 (own := "PulseRemoteModel") rfl cmX12_matches imX12_matches (Or.inl k_1464) (by decide) rfl rfl rfl (Nat.le_of_ble_eq_true rfl) (by decide +kernel : decode cX12_codeOf 85 = .ok (.invokevirtual 232, 3)) (fun z hz => m_X12_matches _ _ _ _ hz) rfl hf (fun z85 hf => ?_)
    refine r_if_eq hB (tgt := 119) (by decide +kernel : decode cX12_codeOf 88 = .ok (.ifCond .eq 31, 3)) (by decide) hf (fun _ hf => ?_) (fun _ hf => ?_)
    · exact WW.sub [0, 1, 2, 3, 4] rfl (t_X12_codeOf_119 hB hf hk)
    · refine r_aload_n hB 0 rfl (by decide +kernel : decode cX12_codeOf 91 = .ok (.aload_n 0, 1)) rfl ?_
      refine r_aload_n hB 0 rfl (by decide +kernel : decode cX12_codeOf 92 = .ok (.aload_n 0, 1)) rfl ?_
      refine r_gR hB cf12 13 (by decide) (own := "PulseRemoteModel") rfl (Or.inl k_1128) (by decide +kernel) (by decide +kernel : decode cX12_codeOf 93 = .ok (.getfield 26, 3)) hf (fun x93 hf => ?_)
      refine r_iload_n hB 2 rfl (by decide +kernel : decode cX12_codeOf 96 = .ok (.iload_n 2, 1)) rfl ?_
      refine r_iconst hB (v := 1) (by decide +kernel : decode cX12_codeOf 97 = .ok (.iconst 1, 1)) (by decide +kernel) ?_
      refine r_iadd hB (by decide +kernel : decode cX12_codeOf 98 = .ok (.iadd, 1)) ?_
      refine r_iald hB (by decide +kernel : decode cX12_codeOf 99 = .ok (.iaload, 1)) hf (fun x99 hf => ?_)
      refine r_aload_n hB 0 rfl (by decide +kernel : decode cX12_codeOf 100 = .ok (.aload_n 0, 1)) rfl ?_
      refine r_gR hB cf12 0 (by decide) (own := "PulseRemoteModel") rfl (Or.inl k_1115) (by decide +kernel) (by decide +kernel : decode cX12_codeOf 101 = .ok (.getfield 7, 3)) hf (fun x101 hf => ?_)
      refine r_iload hB 4 rfl (by decide +kernel : decode cX12_codeOf 104 = .ok (.iload 4, 2)) ?_
      refine r_iconst hB (v := 2) (by decide +kernel : decode cX12_codeOf 106 = .ok (.iconst 2, 1)) (by decide +kernel) ?_
      refine r_iadd hB (by decide +kernel : decode cX12_codeOf 107 = .ok (.iadd, 1)) ?_
      refine r_iald hB (by decide +kernel : decode cX12_codeOf 108 = .ok (.iaload, 1)) hf (fun x108 hf => ?_)
      refine r_cVi hB [.int x99, .int x108] [] cf12 (own := "PulseRemoteModel") rfl cmX12_matches imX12_matches (Or.inl k_1464) (by decide) rfl rfl rfl (Nat.le_of_ble_eq_true rfl) (by decide +kernel : decode cX12_codeOf 109 = .ok (.invokevirtual 232, 3)) (fun z hz => m_X12_matches _ _ _ _ hz) rfl hf (fun z109 hf => ?_)
      refine r_if_eq hB (tgt := 119) (by decide +kernel : decode cX12_codeOf 112 = .ok (.ifCond .eq 7, 3)) (by decide) hf (fun _ hf => ?_) (fun _ hf => ?_)
      · exact WW.sub [0, 1, 2, 3, 4] rfl (t_X12_codeOf_119 hB hf hk)
      · refine r_iconst hB (v := 1) (by decide +kernel : decode cX12_codeOf 115 = .ok (.iconst 1, 1)) (by decide +kernel) ?_
        refine r_goto hB (tgt := 120) (by decide +kernel : decode cX12_codeOf 116 = .ok (.goto 4, 3)) (by decide) ?_
        exact WW.sub [0, 1, 2, 3, 4] rfl (t_X12_codeOf_120 hB hf hk)
  · exact WW.sub [0, 1, 2, 3, 4] rfl (t_X12_codeOf_119 hB hf hk)
set_option maxHeartbeats 4000000 in
set_option maxRecDepth 100000 in
theorem t_X12_codeOf_0 {X : BX} {D : va_G} {cy : Nat → ClassId} {b : Nat} {r : Option Value} {μ' : MS} (hB : BB X D cy b yX12_codeOf cX12_codeOf 8 (some .int) rmX12_codeOf) {l0 : Nat} {l1 : Int32} {l2 : Int32} {l3 : Int32} {μ : MS} {z : (Int32 × MS)} (hf : f_X12_codeOf l0 l1 l2 l3 μ = some z) (hk : (fun z : Int32 × MS => r = some (.int z.1) ∧ μ' = z.2) z) : WW X D cy b r μ' 8 0 0 0 [(0, .ref (b + l0)), (1, .int l1), (2, .int l2), (3, .int l3)] [] μ := by
  unfold f_X12_codeOf at hf
  refine r_iload_n hB 1 rfl (by decide +kernel : decode cX12_codeOf 0 = .ok (.iload_n 1, 1)) rfl ?_
  refine r_cSi hB [.int l1] [] (own := "PulseRemoteModel") rfl cmX12_at smX12_at (Or.inl ⟨rfl, k_1244⟩) (by decide) rfl rfl rfl (Nat.le_of_ble_eq_true rfl) (by decide +kernel : decode cX12_codeOf 1 = .ok (.invokestatic 72, 3)) (fun z hz => m_X12_at _ _ _ _ hz) rfl hf (fun z1 hf => ?_)
  refine r_istore hB (by decide +kernel : decode cX12_codeOf 4 = .ok (.istore 4, 2)) (by decide) rfl ?_
  refine ww_lv (lv' := [(4, .int z1.1), (0, .ref (b + l0)), (1, .int l1), (2, .int l2), (3, .int l3)]) rfl ?_
  refine r_aload_n hB 1 rfl (by decide +kernel : decode cX12_codeOf 6 = .ok (.aload_n 0, 1)) rfl ?_
  refine r_gR hB cf12 0 (by decide) (own := "PulseRemoteModel") rfl (Or.inl k_1115) (by decide +kernel) (by decide +kernel : decode cX12_codeOf 7 = .ok (.getfield 7, 3)) hf (fun x7 hf => ?_)
  refine r_iload hB 0 rfl (by decide +kernel : decode cX12_codeOf 10 = .ok (.iload 4, 2)) ?_
  refine r_bipush hB (v := 6) (by decide +kernel : decode cX12_codeOf 12 = .ok (.bipush 6, 2)) (by decide +kernel) ?_
  refine r_iadd hB (by decide +kernel : decode cX12_codeOf 14 = .ok (.iadd, 1)) ?_
  refine r_iald hB (by decide +kernel : decode cX12_codeOf 15 = .ok (.iaload, 1)) hf (fun x15 hf => ?_)
  refine r_istore hB (by decide +kernel : decode cX12_codeOf 16 = .ok (.istore 5, 2)) (by decide) rfl ?_
  refine ww_lv (lv' := [(5, .int x15), (4, .int z1.1), (0, .ref (b + l0)), (1, .int l1), (2, .int l2), (3, .int l3)]) rfl ?_
  refine r_aload_n hB 2 rfl (by decide +kernel : decode cX12_codeOf 18 = .ok (.aload_n 0, 1)) rfl ?_
  refine r_gR hB cf12 0 (by decide) (own := "PulseRemoteModel") rfl (Or.inl k_1115) (by decide +kernel) (by decide +kernel : decode cX12_codeOf 19 = .ok (.getfield 7, 3)) hf (fun x19 hf => ?_)
  refine r_iload hB 1 rfl (by decide +kernel : decode cX12_codeOf 22 = .ok (.iload 4, 2)) ?_
  refine r_iconst hB (v := 0) (by decide +kernel : decode cX12_codeOf 24 = .ok (.iconst 0, 1)) (by decide +kernel) ?_
  refine r_iadd hB (by decide +kernel : decode cX12_codeOf 25 = .ok (.iadd, 1)) ?_
  refine r_iald hB (by decide +kernel : decode cX12_codeOf 26 = .ok (.iaload, 1)) hf (fun x26 hf => ?_)
  refine r_iconst hB (v := 2) (by decide +kernel : decode cX12_codeOf 27 = .ok (.iconst 2, 1)) (by decide +kernel) ?_
  refine r_icmp_ne hB (tgt := 43) (by decide +kernel : decode cX12_codeOf 28 = .ok (.if_icmp .ne 15, 3)) (by decide) hf (fun _ hf => ?_) (fun _ hf => ?_)
  · refine r_aload_n hB 2 rfl (by decide +kernel : decode cX12_codeOf 31 = .ok (.aload_n 0, 1)) rfl ?_
    refine r_iload_n hB 3 rfl (by decide +kernel : decode cX12_codeOf 32 = .ok (.iload_n 1, 1)) rfl ?_
    refine r_iload_n hB 4 rfl (by decide +kernel : decode cX12_codeOf 33 = .ok (.iload_n 2, 1)) rfl ?_
    refine r_iload_n hB 5 rfl (by decide +kernel : decode cX12_codeOf 34 = .ok (.iload_n 3, 1)) rfl ?_
    refine r_cVi hB [.int l1, .int l2, .int l3] [] cf12 (own := "PulseRemoteModel") rfl cmX12_readsPhase imX12_readsPhase (Or.inl k_1460) (by decide) rfl rfl rfl (Nat.le_of_ble_eq_true rfl) (by decide +kernel : decode cX12_codeOf 35 = .ok (.invokevirtual 247, 3)) (fun z hz => m_X12_readsPhase _ _ _ _ hz) rfl hf (fun z35 hf => ?_)
    refine r_istore hB (by decide +kernel : decode cX12_codeOf 38 = .ok (.istore 6, 2)) (by decide) rfl ?_
    refine ww_lv (lv' := [(6, .int z35.1), (5, .int x15), (4, .int z1.1), (0, .ref (b + l0)), (1, .int l1), (2, .int l2), (3, .int l3)]) rfl ?_
    refine r_goto hB (tgt := 211) (by decide +kernel : decode cX12_codeOf 40 = .ok (.goto 171, 3)) (by decide) ?_
    exact WW.sub [3, 4, 0] rfl (t_X12_codeOf_211 hB hf hk)
  · refine r_iload_n hB 5 rfl (by decide +kernel : decode cX12_codeOf 43 = .ok (.iload_n 3, 1)) rfl ?_
    refine r_iconst hB (v := 2) (by decide +kernel : decode cX12_codeOf 44 = .ok (.iconst 2, 1)) (by decide +kernel) ?_
    refine r_iload hB 0 rfl (by decide +kernel : decode cX12_codeOf 45 = .ok (.iload 5, 2)) ?_
    refine r_imul hB (by decide +kernel : decode cX12_codeOf 47 = .ok (.imul, 1)) ?_
    refine r_aload_n hB 2 rfl (by decide +kernel : decode cX12_codeOf 48 = .ok (.aload_n 0, 1)) rfl ?_
    refine r_gR hB cf12 0 (by decide) (own := "PulseRemoteModel") rfl (Or.inl k_1115) (by decide +kernel) (by decide +kernel : decode cX12_codeOf 49 = .ok (.getfield 7, 3)) hf (fun x49 hf => ?_)
    refine r_iload hB 1 rfl (by decide +kernel : decode cX12_codeOf 52 = .ok (.iload 4, 2)) ?_
    refine r_iconst hB (v := 0) (by decide +kernel : decode cX12_codeOf 54 = .ok (.iconst 0, 1)) (by decide +kernel) ?_
    refine r_iadd hB (by decide +kernel : decode cX12_codeOf 55 = .ok (.iadd, 1)) ?_
    refine r_iald hB (by decide +kernel : decode cX12_codeOf 56 = .ok (.iaload, 1)) hf (fun x56 hf => ?_)
    refine r_if_ne hB (tgt := 64) (by decide +kernel : decode cX12_codeOf 57 = .ok (.ifCond .ne 7, 3)) (by decide) hf (fun _ hf => ?_) (fun _ hf => ?_)
    · refine r_iconst hB (v := 3) (by decide +kernel : decode cX12_codeOf 60 = .ok (.iconst 3, 1)) (by decide +kernel) ?_
      refine r_goto hB (tgt := 65) (by decide +kernel : decode cX12_codeOf 61 = .ok (.goto 4, 3)) (by decide) ?_
      exact WW.sub [2, 3, 4, 5, 1] rfl (t_X12_codeOf_65 hB hf hk)
    · refine r_iconst hB (v := 1) (by decide +kernel : decode cX12_codeOf 64 = .ok (.iconst 1, 1)) (by decide +kernel) ?_
      exact WW.sub [2, 3, 4, 5, 1] rfl (t_X12_codeOf_65 hB hf hk)
theorem m_X12_codeOf (l : Launch) (D : va_G) (cy : Nat → ClassId) (b : Nat) {l0 : Nat} {l1 : Int32} {l2 : Int32} {l3 : Int32} {μ : MS} {z : Int32 × MS} (hf : f_X12_codeOf l0 l1 l2 l3 μ = some z) : Met l yX12_codeOf (.code yX12_codeOf cX12_codeOf 8 (some .int) :: GW) rmX12_codeOf (Pw D cy b [.ref (b + l0), .int l1, .int l2, .int l3] μ) (Qw D cy b (some (.int z.1)) (z.2)) rmX12_codeOf.cells rmX12_codeOf.slots (fun q => b ≤ q) :=
  met_of (by decide) (Nat.le_of_ble_eq_true rfl) (fun X hB _ => (t_X12_codeOf_0 hB hf ⟨rfl, rfl⟩))
-- PulseRemoteModel.isShort(III)Z
set_option maxHeartbeats 4000000 in
set_option maxRecDepth 100000 in
theorem t_X12_isShort_0 {X : BX} {D : va_G} {cy : Nat → ClassId} {b : Nat} {r : Option Value} {μ' : MS} (hB : BB X D cy b yX12_isShort cX12_isShort 5 (some .boolean) rmX12_isShort) {l0 : Nat} {l1 : Int32} {l2 : Int32} {l3 : Int32} {μ : MS} {z : (Int32 × MS)} (hf : f_X12_isShort l0 l1 l2 l3 μ = some z) (hk : (fun z : Int32 × MS => r = some (.int z.1) ∧ μ' = z.2) z) : WW X D cy b r μ' 5 0 0 0 [(0, .ref (b + l0)), (1, .int l1), (2, .int l2), (3, .int l3)] [] μ := by
  unfold f_X12_isShort at hf
  refine r_iload_n hB 1 rfl (by decide +kernel : decode cX12_isShort 0 = .ok (.iload_n 1, 1)) rfl ?_
  refine r_cSi hB [.int l1] [] (own := "PulseRemoteModel") rfl cmX12_at smX12_at (Or.inl ⟨rfl, k_1244⟩) (by decide) rfl rfl rfl (Nat.le_of_ble_eq_true rfl) (by decide +kernel : decode cX12_isShort 1 = .ok (.invokestatic 72, 3)) (fun z hz => m_X12_at _ _ _ _ hz) rfl hf (fun z1 hf => ?_)
  refine r_istore hB (by decide +kernel : decode cX12_isShort 4 = .ok (.istore 4, 2)) (by decide) rfl ?_
  refine ww_lv (lv' := [(4, .int z1.1), (0, .ref (b + l0)), (1, .int l1), (2, .int l2), (3, .int l3)]) rfl ?_
  refine r_aload_n hB 1 rfl (by decide +kernel : decode cX12_isShort 6 = .ok (.aload_n 0, 1)) rfl ?_
  refine r_gR hB cf12 0 (by decide) (own := "PulseRemoteModel") rfl (Or.inl k_1115) (by decide +kernel) (by decide +kernel : decode cX12_isShort 7 = .ok (.getfield 7, 3)) hf (fun x7 hf => ?_)
  refine r_iload hB 0 rfl (by decide +kernel : decode cX12_isShort 10 = .ok (.iload 4, 2)) ?_
  refine r_bipush hB (v := 8) (by decide +kernel : decode cX12_isShort 12 = .ok (.bipush 8, 2)) (by decide +kernel) ?_
  refine r_iadd hB (by decide +kernel : decode cX12_isShort 14 = .ok (.iadd, 1)) ?_
  refine r_iald hB (by decide +kernel : decode cX12_isShort 15 = .ok (.iaload, 1)) hf (fun x15 hf => ?_)
  refine r_iconst hB (v := 1) (by decide +kernel : decode cX12_isShort 16 = .ok (.iconst 1, 1)) (by decide +kernel) ?_
  refine r_icmp_ne hB (tgt := 101) (by decide +kernel : decode cX12_isShort 17 = .ok (.if_icmp .ne 84, 3)) (by decide) hf (fun _ hf => ?_) (fun _ hf => ?_)
  · refine r_iload_n hB 4 rfl (by decide +kernel : decode cX12_isShort 20 = .ok (.iload_n 3, 1)) rfl ?_
    refine r_iconst hB (v := 3) (by decide +kernel : decode cX12_isShort 21 = .ok (.iconst 3, 1)) (by decide +kernel) ?_
    refine r_icmp_ne hB (tgt := 101) (by decide +kernel : decode cX12_isShort 22 = .ok (.if_icmp .ne 79, 3)) (by decide) hf (fun _ hf => ?_) (fun _ hf => ?_)
    · refine r_aload_n hB 1 rfl (by decide +kernel : decode cX12_isShort 25 = .ok (.aload_n 0, 1)) rfl ?_
      refine r_aload_n hB 1 rfl (by decide +kernel : decode cX12_isShort 26 = .ok (.aload_n 0, 1)) rfl ?_
      refine r_gR hB cf12 13 (by decide) (own := "PulseRemoteModel") rfl (Or.inl k_1128) (by decide +kernel) (by decide +kernel : decode cX12_isShort 27 = .ok (.getfield 26, 3)) hf (fun x27 hf => ?_)
      refine r_iload_n hB 3 rfl (by decide +kernel : decode cX12_isShort 30 = .ok (.iload_n 2, 1)) rfl ?_
      refine r_iald hB (by decide +kernel : decode cX12_isShort 31 = .ok (.iaload, 1)) hf (fun x31 hf => ?_)
      refine r_aload_n hB 1 rfl (by decide +kernel : decode cX12_isShort 32 = .ok (.aload_n 0, 1)) rfl ?_
      refine r_gR hB cf12 0 (by decide) (own := "PulseRemoteModel") rfl (Or.inl k_1115) (by decide +kernel) (by decide +kernel : decode cX12_isShort 33 = .ok (.getfield 7, 3)) hf (fun x33 hf => ?_)
      refine r_iload hB 0 rfl (by decide +kernel : decode cX12_isShort 36 = .ok (.iload 4, 2)) ?_
      refine r_iconst hB (v := 1) (by decide +kernel : decode cX12_isShort 38 = .ok (.iconst 1, 1)) (by decide +kernel) ?_
      refine r_iadd hB (by decide +kernel : decode cX12_isShort 39 = .ok (.iadd, 1)) ?_
      refine r_iald hB (by decide +kernel : decode cX12_isShort 40 = .ok (.iaload, 1)) hf (fun x40 hf => ?_)
      refine r_cVi hB [.int x31, .int x40] [] cf12 (own := "PulseRemoteModel") rfl cmX12_matches imX12_matches (Or.inl k_1464) (by decide) rfl rfl rfl (Nat.le_of_ble_eq_true rfl) (by decide +kernel : decode cX12_isShort 41 = .ok (.invokevirtual 232, 3)) (fun z hz => m_X12_matches _ _ _ _ hz) rfl hf (fun z41 hf => ?_)
      refine r_if_eq hB (tgt := 101) (by decide +kernel : decode cX12_isShort 44 = .ok (.ifCond .eq 57, 3)) (by decide) hf (fun _ hf => ?_) (fun _ hf => ?_)
      · refine r_iconst hB (v := 0) (by decide +kernel : decode cX12_isShort 101 = .ok (.iconst 0, 1)) (by decide +kernel) ?_
        obtain rfl := Option.some.inj hf
        obtain ⟨rfl, rfl⟩ := hk
        exact r_zret hB (Or.inl rfl) (by decide +kernel : decode cX12_isShort 102 = .ok (.ireturn, 1))
      · refine r_aload_n hB 1 rfl (by decide +kernel : decode cX12_isShort 47 = .ok (.aload_n 0, 1)) rfl ?_
        refine r_aload_n hB 1 rfl (by decide +kernel : decode cX12_isShort 48 = .ok (.aload_n 0, 1)) rfl ?_
        refine r_gR hB cf12 13 (by decide) (own := "PulseRemoteModel") rfl (Or.inl k_1128) (by decide +kernel) (by decide +kernel : decode cX12_isShort 49 = .ok (.getfield 26, 3)) hf (fun x49 hf => ?_)
        refine r_iload_n hB 3 rfl (by decide +kernel : decode cX12_isShort 52 = .ok (.iload_n 2, 1)) rfl ?_
        refine r_iconst hB (v := 1) (by decide +kernel : decode cX12_isShort 53 = .ok (.iconst 1, 1)) (by decide +kernel) ?_
        refine r_iadd hB (by decide +kernel : decode cX12_isShort 54 = .ok (.iadd, 1)) ?_
        refine r_iald hB (by decide +kernel : decode cX12_isShort 55 = .ok (.iaload, 1)) hf (fun x55 hf => ?_)
        refine r_aload_n hB 1 rfl (by decide +kernel : decode cX12_isShort 56 = .ok (.aload_n 0, 1)) rfl ?_
        refine r_gR hB cf12 0 (by decide) (own := "PulseRemoteModel") rfl (Or.inl k_1115) (by decide +kernel) (by decide +kernel : decode cX12_isShort 57 = .ok (.getfield 7, 3)) hf (fun x57 hf => ?_)
        refine r_iload hB 0 rfl (by decide +kernel : decode cX12_isShort 60 = .ok (.iload 4, 2)) ?_
        refine r_iconst hB (v := 2) (by decide +kernel : decode cX12_isShort 62 = .ok (.iconst 2, 1)) (by decide +kernel) ?_
        refine r_iadd hB (by decide +kernel : decode cX12_isShort 63 = .ok (.iadd, 1)) ?_
        refine r_iald hB (by decide +kernel : decode cX12_isShort 64 = .ok (.iaload, 1)) hf (fun x64 hf => ?_)
        refine r_iconst hB (v := 2) (by decide +kernel : decode cX12_isShort 65 = .ok (.iconst 2, 1)) (by decide +kernel) ?_
        refine r_idiv hB (by decide +kernel : decode cX12_isShort 66 = .ok (.idiv, 1)) hf (fun v66 hf => ?_)
        refine r_cVi hB [.int x55, .int v66] [] cf12 (own := "PulseRemoteModel") rfl cmX12_matches imX12_matches (Or.inl k_1464) (by decide) rfl rfl rfl (Nat.le_of_ble_eq_true rfl) (by decide +kernel : decode cX12_isShort 67 = .ok (.invokevirtual 232, 3)) (fun z hz => m_X12_matches _ _ _ _ hz) rfl hf (fun z67 hf => ?_)
        refine r_if_eq hB (tgt := 101) (by decide +kernel : decode cX12_isShort 70 = .ok (.ifCond .eq 31, 3)) (by decide) hf (fun _ hf => ?_) (fun _ hf => ?_)
        · refine r_iconst hB (v := 0) (by decide +kernel : decode cX12_isShort 101 = .ok (.iconst 0, 1)) (by decide +kernel) ?_
          obtain rfl := Option.some.inj hf
          obtain ⟨rfl, rfl⟩ := hk
          exact r_zret hB (Or.inl rfl) (by decide +kernel : decode cX12_isShort 102 = .ok (.ireturn, 1))
        · refine r_aload_n hB 1 rfl (by decide +kernel : decode cX12_isShort 73 = .ok (.aload_n 0, 1)) rfl ?_
          refine r_aload_n hB 1 rfl (by decide +kernel : decode cX12_isShort 74 = .ok (.aload_n 0, 1)) rfl ?_
          refine r_gR hB cf12 13 (by decide) (own := "PulseRemoteModel") rfl (Or.inl k_1128) (by decide +kernel) (by decide +kernel : decode cX12_isShort 75 = .ok (.getfield 26, 3)) hf (fun x75 hf => ?_)
          refine r_iload_n hB 3 rfl (by decide +kernel : decode cX12_isShort 78 = .ok (.iload_n 2, 1)) rfl ?_
          refine r_iconst hB (v := 2) (by decide +kernel : decode cX12_isShort 79 = .ok (.iconst 2, 1)) (by decide +kernel) ?_
          refine r_iadd hB (by decide +kernel : decode cX12_isShort 80 = .ok (.iadd, 1)) ?_
          refine r_iald hB (by decide +kernel : decode cX12_isShort 81 = .ok (.iaload, 1)) hf (fun x81 hf => ?_)
          refine r_aload_n hB 1 rfl (by decide +kernel : decode cX12_isShort 82 = .ok (.aload_n 0, 1)) rfl ?_
          refine r_gR hB cf12 0 (by decide) (own := "PulseRemoteModel") rfl (Or.inl k_1115) (by decide +kernel) (by decide +kernel : decode cX12_isShort 83 = .ok (.getfield 7, 3)) hf (fun x83 hf => ?_)
          refine r_iload hB 0 rfl (by decide +kernel : decode cX12_isShort 86 = .ok (.iload 4, 2)) ?_
          refine r_iconst hB (v := 3) (by decide +kernel : decode cX12_isShort 88 = .ok (.iconst 3, 1)) (by decide +kernel) ?_
          refine r_iadd hB (by decide +kernel : decode cX12_isShort 89 = .ok (.iadd, 1)) ?_
          refine r_iald hB (by decide +kernel : decode cX12_isShort 90 = .ok (.iaload, 1)) hf (fun x90 hf => ?_)
          refine r_cVi hB [.int x81, .int x90] [] cf12 (own := "PulseRemoteModel") rfl cmX12_matches imX12_matches (Or.inl k_1464) (by decide) rfl rfl rfl (Nat.le_of_ble_eq_true rfl) (by decide +kernel : decode cX12_isShort 91 = .ok (.invokevirtual 232, 3)) (fun z hz => m_X12_matches _ _ _ _ hz) rfl hf (fun z91 hf => ?_)
          refine r_if_eq hB (tgt := 101) (by decide +kernel : decode cX12_isShort 94 = .ok (.ifCond .eq 7, 3)) (by decide) hf (fun _ hf => ?_) (fun _ hf => ?_)
          · refine r_iconst hB (v := 0) (by decide +kernel : decode cX12_isShort 101 = .ok (.iconst 0, 1)) (by decide +kernel) ?_
            obtain rfl := Option.some.inj hf
            obtain ⟨rfl, rfl⟩ := hk
            exact r_zret hB (Or.inl rfl) (by decide +kernel : decode cX12_isShort 102 = .ok (.ireturn, 1))
          · refine r_iconst hB (v := 1) (by decide +kernel : decode cX12_isShort 97 = .ok (.iconst 1, 1)) (by decide +kernel) ?_
            refine r_goto hB (tgt := 102) (by decide +kernel : decode cX12_isShort 98 = .ok (.goto 4, 3)) (by decide) ?_
            obtain rfl := Option.some.inj hf
            obtain ⟨rfl, rfl⟩ := hk
            exact r_zret hB (Or.inr rfl) (by decide +kernel : decode cX12_isShort 102 = .ok (.ireturn, 1))
    · refine r_iconst hB (v := 0) (by decide +kernel : decode cX12_isShort 101 = .ok (.iconst 0, 1)) (by decide +kernel) ?_
      obtain rfl := Option.some.inj hf
      obtain ⟨rfl, rfl⟩ := hk
      exact r_zret hB (Or.inl rfl) (by decide +kernel : decode cX12_isShort 102 = .ok (.ireturn, 1))
  · refine r_iconst hB (v := 0) (by decide +kernel : decode cX12_isShort 101 = .ok (.iconst 0, 1)) (by decide +kernel) ?_
    obtain rfl := Option.some.inj hf
    obtain ⟨rfl, rfl⟩ := hk
    exact r_zret hB (Or.inl rfl) (by decide +kernel : decode cX12_isShort 102 = .ok (.ireturn, 1))
theorem m_X12_isShort (l : Launch) (D : va_G) (cy : Nat → ClassId) (b : Nat) {l0 : Nat} {l1 : Int32} {l2 : Int32} {l3 : Int32} {μ : MS} {z : Int32 × MS} (hf : f_X12_isShort l0 l1 l2 l3 μ = some z) : Met l yX12_isShort (.code yX12_isShort cX12_isShort 5 (some .boolean) :: GW) rmX12_isShort (Pw D cy b [.ref (b + l0), .int l1, .int l2, .int l3] μ) (Qw D cy b (some (.int z.1)) (z.2)) rmX12_isShort.cells rmX12_isShort.slots (fun q => b ≤ q) :=
  met_of (by decide) (Nat.le_of_ble_eq_true rfl) (fun X hB _ => (t_X12_isShort_0 hB hf ⟨rfl, rfl⟩))
-- PulseRemoteModel.decodes(I)Z
set_option maxHeartbeats 4000000 in
set_option maxRecDepth 100000 in
theorem t_X12_decodes_113 {X : BX} {D : va_G} {cy : Nat → ClassId} {b : Nat} {r : Option Value} {μ' : MS} (hB : BB X D cy b yX12_decodes cX12_decodes 4 (some .boolean) rmX12_decodes)  {μ : MS} {z : (Int32 × MS)} (hf : f_X12_decodes_113  μ = some z) (hk : (fun z : Int32 × MS => r = some (.int z.1) ∧ μ' = z.2) z) : WW X D cy b r μ' 4 0 0 113 [] [] μ := by
  unfold f_X12_decodes_113 at hf
  refine r_iconst hB (v := 0) (by decide +kernel : decode cX12_decodes 113 = .ok (.iconst 0, 1)) (by decide +kernel) ?_
  obtain rfl := Option.some.inj hf
  obtain ⟨rfl, rfl⟩ := hk
  exact r_zret hB (Or.inl rfl) (by decide +kernel : decode cX12_decodes 114 = .ok (.ireturn, 1))
set_option maxHeartbeats 4000000 in
set_option maxRecDepth 100000 in
theorem t_X12_decodes_89 {X : BX} {D : va_G} {cy : Nat → ClassId} {b : Nat} {r : Option Value} {μ' : MS} (hB : BB X D cy b yX12_decodes cX12_decodes 4 (some .boolean) rmX12_decodes) {l0 : Nat} {l2 : Int32} {μ : MS} {z : (Int32 × MS)} (hf : f_X12_decodes_89 l0 l2 μ = some z) (hk : (fun z : Int32 × MS => r = some (.int z.1) ∧ μ' = z.2) z) : WW X D cy b r μ' 4 0 0 89 [(0, .ref (b + l0)), (2, .int l2)] [] μ := by
  unfold f_X12_decodes_89 at hf
  refine r_aload_n hB 0 rfl (by decide +kernel : decode cX12_decodes 89 = .ok (.aload_n 0, 1)) rfl ?_
  refine r_iload_n hB 1 rfl (by decide +kernel : decode cX12_decodes 90 = .ok (.iload_n 2, 1)) rfl ?_
  refine r_pI hB cf12 26 (by decide) (own := "PulseRemoteModel") rfl (Or.inl k_1141) (Or.inl rfl) rfl (by decide +kernel : decode cX12_decodes 91 = .ok (.putfield 265, 3)) hf (fun m91 hf => ?_)
  refine r_aload_n hB 0 rfl (by decide +kernel : decode cX12_decodes 94 = .ok (.aload_n 0, 1)) rfl ?_
  refine r_bipush hB (v := (-9)) (by decide +kernel : decode cX12_decodes 95 = .ok (.bipush (-9), 2)) (by decide +kernel) ?_
  refine r_pI hB cf12 27 (by decide) (own := "PulseRemoteModel") rfl (Or.inl k_1142) (Or.inl rfl) rfl (by decide +kernel : decode cX12_decodes 97 = .ok (.putfield 268, 3)) hf (fun m97 hf => ?_)
  refine r_aload_n hB 0 rfl (by decide +kernel : decode cX12_decodes 100 = .ok (.aload_n 0, 1)) rfl ?_
  refine r_iconst hB (v := 1) (by decide +kernel : decode cX12_decodes 101 = .ok (.iconst 1, 1)) (by decide +kernel) ?_
  refine r_pZ hB cf12 28 (by decide) (own := "PulseRemoteModel") rfl (Or.inl k_1143) (Or.inl rfl) rfl (by decide +kernel : decode cX12_decodes 102 = .ok (.putfield 259, 3)) hf (fun m102 hf => ?_)
  refine r_iconst hB (v := 1) (by decide +kernel : decode cX12_decodes 105 = .ok (.iconst 1, 1)) (by decide +kernel) ?_
  obtain rfl := Option.some.inj hf
  obtain ⟨rfl, rfl⟩ := hk
  exact r_zret hB (Or.inr rfl) (by decide +kernel : decode cX12_decodes 106 = .ok (.ireturn, 1))
set_option maxHeartbeats 4000000 in
set_option maxRecDepth 100000 in
theorem t_X12_decodes_59_b {X : BX} {D : va_G} {cy : Nat → ClassId} {b : Nat} {r : Option Value} {μ' : MS} (hB : BB X D cy b yX12_decodes cX12_decodes 4 (some .boolean) rmX12_decodes) {l0 : Nat} {l1 : Int32} {l2 : Int32} {μ : MS} {z : ((Nat × Int32 × Int32 × MS) ⊕ (Int32 × MS))} (hf : f_X12_decodes_59_b l0 l1 l2 μ = some z) (hk : (Sum.elim (fun s : Nat × Int32 × Int32 × MS => WW X D cy b r μ' 4 0 0 59 [(0, .ref (b + s.1)), (1, .int s.2.1), (2, .int s.2.2.1)] [] s.2.2.2) (fun z : Int32 × MS => r = some (.int z.1) ∧ μ' = z.2)) z) : WW X D cy b r μ' 4 0 0 59 [(0, .ref (b + l0)), (1, .int l1), (2, .int l2)] [] μ := by
  unfold f_X12_decodes_59_b at hf
  refine r_iload_n hB 2 rfl (by decide +kernel : decode cX12_decodes 59 = .ok (.iload_n 2, 1)) rfl ?_
  refine r_aload_n hB 0 rfl (by decide +kernel : decode cX12_decodes 60 = .ok (.aload_n 0, 1)) rfl ?_
  refine r_gR hB cf12 0 (by decide) (own := "PulseRemoteModel") rfl (Or.inl k_1115) (by decide +kernel) (by decide +kernel : decode cX12_decodes 61 = .ok (.getfield 7, 3)) hf (fun x61 hf => ?_)
  refine r_iconst hB (v := 3) (by decide +kernel : decode cX12_decodes 64 = .ok (.iconst 3, 1)) (by decide +kernel) ?_
  refine r_iald hB (by decide +kernel : decode cX12_decodes 65 = .ok (.iaload, 1)) hf (fun x65 hf => ?_)
  refine r_icmp_ge hB (tgt := 113) (by decide +kernel : decode cX12_decodes 66 = .ok (.if_icmp .ge 47, 3)) (by decide) hf (fun _ hf => ?_) (fun _ hf => ?_)
  · obtain ⟨_, hx0, rfl⟩ := xr_inv hf
    exact WW.sub [] rfl (t_X12_decodes_113 hB hx0 hk)
  · refine r_aload_n hB 0 rfl (by decide +kernel : decode cX12_decodes 69 = .ok (.aload_n 0, 1)) rfl ?_
    refine r_iload_n hB 2 rfl (by decide +kernel : decode cX12_decodes 70 = .ok (.iload_n 2, 1)) rfl ?_
    refine r_aload_n hB 0 rfl (by decide +kernel : decode cX12_decodes 71 = .ok (.aload_n 0, 1)) rfl ?_
    refine r_gR hB cf12 19 (by decide) (own := "PulseRemoteModel") rfl (Or.inl k_1134) (by decide +kernel) (by decide +kernel : decode cX12_decodes 72 = .ok (.getfield 38, 3)) hf (fun x72 hf => ?_)
    refine r_iload_n hB 1 rfl (by decide +kernel : decode cX12_decodes 75 = .ok (.iload_n 1, 1)) rfl ?_
    refine r_iald hB (by decide +kernel : decode cX12_decodes 76 = .ok (.iaload, 1)) hf (fun x76 hf => ?_)
    refine r_aload_n hB 0 rfl (by decide +kernel : decode cX12_decodes 77 = .ok (.aload_n 0, 1)) rfl ?_
    refine r_gR hB cf12 20 (by decide) (own := "PulseRemoteModel") rfl (Or.inl k_1135) (by decide +kernel) (by decide +kernel : decode cX12_decodes 78 = .ok (.getfield 41, 3)) hf (fun x78 hf => ?_)
    refine r_iload_n hB 1 rfl (by decide +kernel : decode cX12_decodes 81 = .ok (.iload_n 1, 1)) rfl ?_
    refine r_iald hB (by decide +kernel : decode cX12_decodes 82 = .ok (.iaload, 1)) hf (fun x82 hf => ?_)
    refine r_cVi hB [.int l2, .int x76, .int x82] [] cf12 (own := "PulseRemoteModel") rfl cmX12_isShort imX12_isShort (Or.inl k_1492) (by decide) rfl rfl rfl (Nat.le_of_ble_eq_true rfl) (by decide +kernel : decode cX12_decodes 83 = .ok (.invokevirtual 271, 3)) (fun z hz => m_X12_isShort _ _ _ _ hz) rfl hf (fun z83 hf => ?_)
    refine r_if_eq hB (tgt := 107) (by decide +kernel : decode cX12_decodes 86 = .ok (.ifCond .eq 21, 3)) (by decide) hf (fun _ hf => ?_) (fun _ hf => ?_)
    · refine r_iincB hB 2 rfl (by decide +kernel : decode cX12_decodes 107 = .ok (.iinc 2 1, 3)) (w := 1) (by decide +kernel) (by decide) hf (fun v107 hf => ?_)
      refine ww_lv (lv' := [(2, .int v107), (0, .ref (b + l0)), (1, .int l1)]) rfl ?_
      refine r_goto hB (tgt := 59) (by decide +kernel : decode cX12_decodes 110 = .ok (.goto (-51), 3)) (by decide) ?_
      obtain rfl := Option.some.inj hf
      exact WW.sub [1, 2, 0] rfl hk
    · obtain ⟨_, hx0, rfl⟩ := xr_inv hf
      exact WW.sub [0, 2] rfl (t_X12_decodes_89 hB hx0 hk)
set_option maxHeartbeats 4000000 in
set_option maxRecDepth 100000 in
theorem t_X12_decodes_59 {X : BX} {D : va_G} {cy : Nat → ClassId} {b : Nat} {r : Option Value} {μ' : MS} (hB : BB X D cy b yX12_decodes cX12_decodes 4 (some .boolean) rmX12_decodes) {l0 : Nat} {l1 : Int32} {l2 : Int32} {μ : MS} {z : (Int32 × MS)} (hf : f_X12_decodes_59 l0 l1 l2 μ = some z) (hk : (fun z : Int32 × MS => r = some (.int z.1) ∧ μ' = z.2) z) : WW X D cy b r μ' 4 0 0 59 [(0, .ref (b + l0)), (1, .int l1), (2, .int l2)] [] μ :=
  lp_ind (P := fun s : Nat × Int32 × Int32 × MS => WW X D cy b r μ' 4 0 0 59 [(0, .ref (b + s.1)), (1, .int s.2.1), (2, .int s.2.2.1)] [] s.2.2.2) (Q := (fun z : Int32 × MS => r = some (.int z.1) ∧ μ' = z.2)) (fun s z hz hk => t_X12_decodes_59_b hB hz hk) (l0, l1, l2, μ) z hf hk
set_option maxHeartbeats 4000000 in
set_option maxRecDepth 100000 in
theorem t_X12_decodes_57 {X : BX} {D : va_G} {cy : Nat → ClassId} {b : Nat} {r : Option Value} {μ' : MS} (hB : BB X D cy b yX12_decodes cX12_decodes 4 (some .boolean) rmX12_decodes) {l0 : Nat} {l1 : Int32} {μ : MS} {z : (Int32 × MS)} (hf : f_X12_decodes_57 l0 l1 μ = some z) (hk : (fun z : Int32 × MS => r = some (.int z.1) ∧ μ' = z.2) z) : WW X D cy b r μ' 4 0 0 57 [(0, .ref (b + l0)), (1, .int l1)] [] μ := by
  unfold f_X12_decodes_57 at hf
  refine r_iconst hB (v := 0) (by decide +kernel : decode cX12_decodes 57 = .ok (.iconst 0, 1)) (by decide +kernel) ?_
  refine r_istore_n hB (by decide +kernel : decode cX12_decodes 58 = .ok (.istore_n 2, 1)) rfl (by decide) rfl ?_
  refine ww_lv (lv' := [(2, .int 0), (0, .ref (b + l0)), (1, .int l1)]) rfl ?_
  exact WW.sub [1, 2, 0] rfl (t_X12_decodes_59 hB hf hk)
set_option maxHeartbeats 4000000 in
set_option maxRecDepth 100000 in
theorem t_X12_decodes_39 {X : BX} {D : va_G} {cy : Nat → ClassId} {b : Nat} {r : Option Value} {μ' : MS} (hB : BB X D cy b yX12_decodes cX12_decodes 4 (some .boolean) rmX12_decodes) {l0 : Nat} {l2 : Int32} {l3 : Int32} {μ : MS} {z : (Int32 × MS)} (hf : f_X12_decodes_39 l0 l2 l3 μ = some z) (hk : (fun z : Int32 × MS => r = some (.int z.1) ∧ μ' = z.2) z) : WW X D cy b r μ' 4 0 0 39 [(0, .ref (b + l0)), (2, .int l2), (3, .int l3)] [] μ := by
  unfold f_X12_decodes_39 at hf
  refine r_aload_n hB 0 rfl (by decide +kernel : decode cX12_decodes 39 = .ok (.aload_n 0, 1)) rfl ?_
  refine r_iload_n hB 1 rfl (by decide +kernel : decode cX12_decodes 40 = .ok (.iload_n 2, 1)) rfl ?_
  refine r_pI hB cf12 26 (by decide) (own := "PulseRemoteModel") rfl (Or.inl k_1141) (Or.inl rfl) rfl (by decide +kernel : decode cX12_decodes 41 = .ok (.putfield 265, 3)) hf (fun m41 hf => ?_)
  refine r_aload_n hB 0 rfl (by decide +kernel : decode cX12_decodes 44 = .ok (.aload_n 0, 1)) rfl ?_
  refine r_iload_n hB 2 rfl (by decide +kernel : decode cX12_decodes 45 = .ok (.iload_n 3, 1)) rfl ?_
  refine r_pI hB cf12 27 (by decide) (own := "PulseRemoteModel") rfl (Or.inl k_1142) (Or.inl rfl) rfl (by decide +kernel : decode cX12_decodes 46 = .ok (.putfield 268, 3)) hf (fun m46 hf => ?_)
  refine r_iconst hB (v := 1) (by decide +kernel : decode cX12_decodes 49 = .ok (.iconst 1, 1)) (by decide +kernel) ?_
  obtain rfl := Option.some.inj hf
  obtain ⟨rfl, rfl⟩ := hk
  exact r_zret hB (Or.inr rfl) (by decide +kernel : decode cX12_decodes 50 = .ok (.ireturn, 1))
set_option maxHeartbeats 4000000 in
set_option maxRecDepth 100000 in
theorem t_X12_decodes_7_b {X : BX} {D : va_G} {cy : Nat → ClassId} {b : Nat} {r : Option Value} {μ' : MS} (hB : BB X D cy b yX12_decodes cX12_decodes 4 (some .boolean) rmX12_decodes) {l0 : Nat} {l1 : Int32} {l2 : Int32} {μ : MS} {z : ((Nat × Int32 × Int32 × MS) ⊕ (Int32 × MS))} (hf : f_X12_decodes_7_b l0 l1 l2 μ = some z) (hk : (Sum.elim (fun s : Nat × Int32 × Int32 × MS => WW X D cy b r μ' 4 0 0 7 [(0, .ref (b + s.1)), (1, .int s.2.1), (2, .int s.2.2.1)] [] s.2.2.2) (fun z : Int32 × MS => r = some (.int z.1) ∧ μ' = z.2)) z) : WW X D cy b r μ' 4 0 0 7 [(0, .ref (b + l0)), (1, .int l1), (2, .int l2)] [] μ := by
  unfold f_X12_decodes_7_b at hf
  refine r_iload_n hB 2 rfl (by decide +kernel : decode cX12_decodes 7 = .ok (.iload_n 2, 1)) rfl ?_
  refine r_aload_n hB 0 rfl (by decide +kernel : decode cX12_decodes 8 = .ok (.aload_n 0, 1)) rfl ?_
  refine r_gR hB cf12 0 (by decide) (own := "PulseRemoteModel") rfl (Or.inl k_1115) (by decide +kernel) (by decide +kernel : decode cX12_decodes 9 = .ok (.getfield 7, 3)) hf (fun x9 hf => ?_)
  refine r_iconst hB (v := 3) (by decide +kernel : decode cX12_decodes 12 = .ok (.iconst 3, 1)) (by decide +kernel) ?_
  refine r_iald hB (by decide +kernel : decode cX12_decodes 13 = .ok (.iaload, 1)) hf (fun x13 hf => ?_)
  refine r_icmp_ge hB (tgt := 57) (by decide +kernel : decode cX12_decodes 14 = .ok (.if_icmp .ge 43, 3)) (by decide) hf (fun _ hf => ?_) (fun _ hf => ?_)
  · obtain ⟨_, hx0, rfl⟩ := xr_inv hf
    exact WW.sub [0, 1] rfl (t_X12_decodes_57 hB hx0 hk)
  · refine r_aload_n hB 0 rfl (by decide +kernel : decode cX12_decodes 17 = .ok (.aload_n 0, 1)) rfl ?_
    refine r_iload_n hB 2 rfl (by decide +kernel : decode cX12_decodes 18 = .ok (.iload_n 2, 1)) rfl ?_
    refine r_aload_n hB 0 rfl (by decide +kernel : decode cX12_decodes 19 = .ok (.aload_n 0, 1)) rfl ?_
    refine r_gR hB cf12 19 (by decide) (own := "PulseRemoteModel") rfl (Or.inl k_1134) (by decide +kernel) (by decide +kernel : decode cX12_decodes 20 = .ok (.getfield 38, 3)) hf (fun x20 hf => ?_)
    refine r_iload_n hB 1 rfl (by decide +kernel : decode cX12_decodes 23 = .ok (.iload_n 1, 1)) rfl ?_
    refine r_iald hB (by decide +kernel : decode cX12_decodes 24 = .ok (.iaload, 1)) hf (fun x24 hf => ?_)
    refine r_aload_n hB 0 rfl (by decide +kernel : decode cX12_decodes 25 = .ok (.aload_n 0, 1)) rfl ?_
    refine r_gR hB cf12 20 (by decide) (own := "PulseRemoteModel") rfl (Or.inl k_1135) (by decide +kernel) (by decide +kernel : decode cX12_decodes 26 = .ok (.getfield 41, 3)) hf (fun x26 hf => ?_)
    refine r_iload_n hB 1 rfl (by decide +kernel : decode cX12_decodes 29 = .ok (.iload_n 1, 1)) rfl ?_
    refine r_iald hB (by decide +kernel : decode cX12_decodes 30 = .ok (.iaload, 1)) hf (fun x30 hf => ?_)
    refine r_cVi hB [.int l2, .int x24, .int x30] [] cf12 (own := "PulseRemoteModel") rfl cmX12_codeOf imX12_codeOf (Or.inl k_1456) (by decide) rfl rfl rfl (Nat.le_of_ble_eq_true rfl) (by decide +kernel : decode cX12_decodes 31 = .ok (.invokevirtual 262, 3)) (fun z hz => m_X12_codeOf _ _ _ _ hz) rfl hf (fun z31 hf => ?_)
    refine r_istore_n hB (by decide +kernel : decode cX12_decodes 34 = .ok (.istore_n 3, 1)) rfl (by decide) rfl ?_
    refine ww_lv (lv' := [(3, .int z31.1), (0, .ref (b + l0)), (1, .int l1), (2, .int l2)]) rfl ?_
    refine r_iload_n hB 0 rfl (by decide +kernel : decode cX12_decodes 35 = .ok (.iload_n 3, 1)) rfl ?_
    refine r_if_lt hB (tgt := 51) (by decide +kernel : decode cX12_decodes 36 = .ok (.ifCond .lt 15, 3)) (by decide) hf (fun _ hf => ?_) (fun _ hf => ?_)
    · refine r_iincB hB 3 rfl (by decide +kernel : decode cX12_decodes 51 = .ok (.iinc 2 1, 3)) (w := 1) (by decide +kernel) (by decide) hf (fun v51 hf => ?_)
      refine ww_lv (lv' := [(2, .int v51), (3, .int z31.1), (0, .ref (b + l0)), (1, .int l1)]) rfl ?_
      refine r_goto hB (tgt := 7) (by decide +kernel : decode cX12_decodes 54 = .ok (.goto (-47), 3)) (by decide) ?_
      obtain rfl := Option.some.inj hf
      exact WW.sub [2, 3, 0] rfl hk
    · obtain ⟨_, hx0, rfl⟩ := xr_inv hf
      exact WW.sub [1, 3, 0] rfl (t_X12_decodes_39 hB hx0 hk)
set_option maxHeartbeats 4000000 in
set_option maxRecDepth 100000 in
theorem t_X12_decodes_7 {X : BX} {D : va_G} {cy : Nat → ClassId} {b : Nat} {r : Option Value} {μ' : MS} (hB : BB X D cy b yX12_decodes cX12_decodes 4 (some .boolean) rmX12_decodes) {l0 : Nat} {l1 : Int32} {l2 : Int32} {μ : MS} {z : (Int32 × MS)} (hf : f_X12_decodes_7 l0 l1 l2 μ = some z) (hk : (fun z : Int32 × MS => r = some (.int z.1) ∧ μ' = z.2) z) : WW X D cy b r μ' 4 0 0 7 [(0, .ref (b + l0)), (1, .int l1), (2, .int l2)] [] μ :=
  lp_ind (P := fun s : Nat × Int32 × Int32 × MS => WW X D cy b r μ' 4 0 0 7 [(0, .ref (b + s.1)), (1, .int s.2.1), (2, .int s.2.2.1)] [] s.2.2.2) (Q := (fun z : Int32 × MS => r = some (.int z.1) ∧ μ' = z.2)) (fun s z hz hk => t_X12_decodes_7_b hB hz hk) (l0, l1, l2, μ) z hf hk
set_option maxHeartbeats 4000000 in
set_option maxRecDepth 100000 in
theorem t_X12_decodes_0 {X : BX} {D : va_G} {cy : Nat → ClassId} {b : Nat} {r : Option Value} {μ' : MS} (hB : BB X D cy b yX12_decodes cX12_decodes 4 (some .boolean) rmX12_decodes) {l0 : Nat} {l1 : Int32} {μ : MS} {z : (Int32 × MS)} (hf : f_X12_decodes l0 l1 μ = some z) (hk : (fun z : Int32 × MS => r = some (.int z.1) ∧ μ' = z.2) z) : WW X D cy b r μ' 4 0 0 0 [(0, .ref (b + l0)), (1, .int l1)] [] μ := by
  unfold f_X12_decodes at hf
  refine r_aload_n hB 0 rfl (by decide +kernel : decode cX12_decodes 0 = .ok (.aload_n 0, 1)) rfl ?_
  refine r_iconst hB (v := 0) (by decide +kernel : decode cX12_decodes 1 = .ok (.iconst 0, 1)) (by decide +kernel) ?_
  refine r_pZ hB cf12 28 (by decide) (own := "PulseRemoteModel") rfl (Or.inl k_1143) (Or.inl rfl) rfl (by decide +kernel : decode cX12_decodes 2 = .ok (.putfield 259, 3)) hf (fun m2 hf => ?_)
  refine r_iconst hB (v := 0) (by decide +kernel : decode cX12_decodes 5 = .ok (.iconst 0, 1)) (by decide +kernel) ?_
  refine r_istore_n hB (by decide +kernel : decode cX12_decodes 6 = .ok (.istore_n 2, 1)) rfl (by decide) rfl ?_
  refine ww_lv (lv' := [(2, .int 0), (0, .ref (b + l0)), (1, .int l1)]) rfl ?_
  exact WW.sub [1, 2, 0] rfl (t_X12_decodes_7 hB hf hk)
theorem m_X12_decodes (l : Launch) (D : va_G) (cy : Nat → ClassId) (b : Nat) {l0 : Nat} {l1 : Int32} {μ : MS} {z : Int32 × MS} (hf : f_X12_decodes l0 l1 μ = some z) : Met l yX12_decodes (.code yX12_decodes cX12_decodes 4 (some .boolean) :: GW) rmX12_decodes (Pw D cy b [.ref (b + l0), .int l1] μ) (Qw D cy b (some (.int z.1)) (z.2)) rmX12_decodes.cells rmX12_decodes.slots (fun q => b ≤ q) :=
  met_of (by decide) (Nat.le_of_ble_eq_true rfl) (fun X hB _ => (t_X12_decodes_0 hB hf ⟨rfl, rfl⟩))
-- PulseRemoteModel.opens(I)V
set_option maxHeartbeats 4000000 in
set_option maxRecDepth 100000 in
theorem t_X12_opens_0 {X : BX} {D : va_G} {cy : Nat → ClassId} {b : Nat} {r : Option Value} {μ' : MS} (hB : BB X D cy b yX12_opens cX12_opens 2 none rmX12_opens) {l0 : Nat} {l1 : Int32} {μ : MS} {z : MS} (hf : f_X12_opens l0 l1 μ = some z) (hk : (fun z : MS => r = none ∧ μ' = z) z) : WW X D cy b r μ' 2 0 0 0 [(0, .ref (b + l0)), (1, .int l1)] [] μ := by
  unfold f_X12_opens at hf
  refine r_aload_n hB 0 rfl (by decide +kernel : decode cX12_opens 0 = .ok (.aload_n 0, 1)) rfl ?_
  refine r_iload_n hB 1 rfl (by decide +kernel : decode cX12_opens 1 = .ok (.iload_n 1, 1)) rfl ?_
  refine r_cVv hB [.int l1] [] cf12 (own := "PulseRemoteModel") rfl cmX12_looksAt imX12_looksAt (Or.inl k_1413) (by decide) rfl rfl rfl (Nat.le_of_ble_eq_true rfl) (by decide +kernel : decode cX12_opens 2 = .ok (.invokevirtual 215, 3)) (fun z hz => m_X12_looksAt _ _ _ _ hz) rfl hf (fun z2 hf => ?_)
  refine r_aload_n hB 0 rfl (by decide +kernel : decode cX12_opens 5 = .ok (.aload_n 0, 1)) rfl ?_
  refine r_cVv hB [] [] cf12 (own := "PulseRemoteModel") rfl cmX12_findsFrames imX12_findsFrames (Or.inl k_1444) (by decide) rfl rfl rfl (Nat.le_of_ble_eq_true rfl) (by decide +kernel : decode cX12_opens 6 = .ok (.invokevirtual 274, 3)) (fun z hz => m_X12_findsFrames _ _ _ _ hz) rfl hf (fun z6 hf => ?_)
  refine r_aload_n hB 0 rfl (by decide +kernel : decode cX12_opens 9 = .ok (.aload_n 0, 1)) rfl ?_
  refine r_aload_n hB 0 rfl (by decide +kernel : decode cX12_opens 10 = .ok (.aload_n 0, 1)) rfl ?_
  refine r_gR hB cf12 0 (by decide) (own := "PulseRemoteModel") rfl (Or.inl k_1115) (by decide +kernel) (by decide +kernel : decode cX12_opens 11 = .ok (.getfield 7, 3)) hf (fun x11 hf => ?_)
  refine r_iconst hB (v := 2) (by decide +kernel : decode cX12_opens 14 = .ok (.iconst 2, 1)) (by decide +kernel) ?_
  refine r_iald hB (by decide +kernel : decode cX12_opens 15 = .ok (.iaload, 1)) hf (fun x15 hf => ?_)
  refine r_pI hB cf12 22 (by decide) (own := "PulseRemoteModel") rfl (Or.inl k_1137) (Or.inl rfl) rfl (by decide +kernel : decode cX12_opens 16 = .ok (.putfield 229, 3)) hf (fun m16 hf => ?_)
  obtain rfl := Option.some.inj hf
  obtain ⟨rfl, rfl⟩ := hk
  exact r_vret hB (by decide +kernel : decode cX12_opens 19 = .ok (.return_, 1))
theorem m_X12_opens (l : Launch) (D : va_G) (cy : Nat → ClassId) (b : Nat) {l0 : Nat} {l1 : Int32} {μ : MS} {z : MS} (hf : f_X12_opens l0 l1 μ = some z) : Met l yX12_opens (.code yX12_opens cX12_opens 2 none :: GW) rmX12_opens (Pw D cy b [.ref (b + l0), .int l1] μ) (Qw D cy b (none) (z)) rmX12_opens.cells rmX12_opens.slots (fun q => b ≤ q) :=
  met_of (by decide) (Nat.le_of_ble_eq_true rfl) (fun X hB _ => (t_X12_opens_0 hB hf ⟨rfl, rfl⟩))
-- PulseRemoteModel.frameCount(I)I
set_option maxHeartbeats 4000000 in
set_option maxRecDepth 100000 in
theorem t_X12_frameCount_0 {X : BX} {D : va_G} {cy : Nat → ClassId} {b : Nat} {r : Option Value} {μ' : MS} (hB : BB X D cy b yX12_frameCount cX12_frameCount 2 (some .int) rmX12_frameCount) {l0 : Nat} {l1 : Int32} {μ : MS} {z : (Int32 × MS)} (hf : f_X12_frameCount l0 l1 μ = some z) (hk : (fun z : Int32 × MS => r = some (.int z.1) ∧ μ' = z.2) z) : WW X D cy b r μ' 2 0 0 0 [(0, .ref (b + l0)), (1, .int l1)] [] μ := by
  unfold f_X12_frameCount at hf
  refine r_iload_n hB 1 rfl (by decide +kernel : decode cX12_frameCount 0 = .ok (.iload_n 1, 1)) rfl ?_
  refine r_cSi hB [.int l1] [] (own := "PulseRemoteModel") rfl cmX12_isSlot smX12_isSlot (Or.inl ⟨rfl, k_1367⟩) (by decide) rfl rfl rfl (Nat.le_of_ble_eq_true rfl) (by decide +kernel : decode cX12_frameCount 1 = .ok (.invokestatic 199, 3)) (fun z hz => m_X12_isSlot _ _ _ _ hz) rfl hf (fun z1 hf => ?_)
  refine r_if_ne hB (tgt := 9) (by decide +kernel : decode cX12_frameCount 4 = .ok (.ifCond .ne 5, 3)) (by decide) hf (fun _ hf => ?_) (fun _ hf => ?_)
  · refine r_iconst hB (v := (-1)) (by decide +kernel : decode cX12_frameCount 7 = .ok (.iconst (-1), 1)) (by decide +kernel) ?_
    obtain rfl := Option.some.inj hf
    obtain ⟨rfl, rfl⟩ := hk
    exact r_iret hB (by decide +kernel : decode cX12_frameCount 8 = .ok (.ireturn, 1))
  · refine r_aload_n hB 0 rfl (by decide +kernel : decode cX12_frameCount 9 = .ok (.aload_n 0, 1)) rfl ?_
    refine r_iload_n hB 1 rfl (by decide +kernel : decode cX12_frameCount 10 = .ok (.iload_n 1, 1)) rfl ?_
    refine r_cVv hB [.int l1] [] cf12 (own := "PulseRemoteModel") rfl cmX12_opens imX12_opens (Or.inl k_1440) (by decide) rfl rfl rfl (Nat.le_of_ble_eq_true rfl) (by decide +kernel : decode cX12_frameCount 11 = .ok (.invokevirtual 277, 3)) (fun z hz => m_X12_opens _ _ _ _ hz) rfl hf (fun z11 hf => ?_)
    refine r_aload_n hB 0 rfl (by decide +kernel : decode cX12_frameCount 14 = .ok (.aload_n 0, 1)) rfl ?_
    refine r_gI hB cf12 21 (by decide) (own := "PulseRemoteModel") rfl (Or.inl k_1136) (by decide +kernel) (by decide +kernel : decode cX12_frameCount 15 = .ok (.getfield 224, 3)) hf (fun x15 hf => ?_)
    obtain rfl := Option.some.inj hf
    obtain ⟨rfl, rfl⟩ := hk
    exact r_iret hB (by decide +kernel : decode cX12_frameCount 18 = .ok (.ireturn, 1))
theorem m_X12_frameCount (l : Launch) (D : va_G) (cy : Nat → ClassId) (b : Nat) {l0 : Nat} {l1 : Int32} {μ : MS} {z : Int32 × MS} (hf : f_X12_frameCount l0 l1 μ = some z) : Met l yX12_frameCount (.code yX12_frameCount cX12_frameCount 2 (some .int) :: GW) rmX12_frameCount (Pw D cy b [.ref (b + l0), .int l1] μ) (Qw D cy b (some (.int z.1)) (z.2)) rmX12_frameCount.cells rmX12_frameCount.slots (fun q => b ≤ q) :=
  met_of (by decide) (Nat.le_of_ble_eq_true rfl) (fun X hB _ => (t_X12_frameCount_0 hB hf ⟨rfl, rfl⟩))
-- PulseRemoteModel.frame(III)I
set_option maxHeartbeats 4000000 in
set_option maxRecDepth 100000 in
theorem t_X12_frame_0 {X : BX} {D : va_G} {cy : Nat → ClassId} {b : Nat} {r : Option Value} {μ' : MS} (hB : BB X D cy b yX12_frame cX12_frame 4 (some .int) rmX12_frame) {l0 : Nat} {l1 : Int32} {l2 : Int32} {l3 : Int32} {μ : MS} {z : (Int32 × MS)} (hf : f_X12_frame l0 l1 l2 l3 μ = some z) (hk : (fun z : Int32 × MS => r = some (.int z.1) ∧ μ' = z.2) z) : WW X D cy b r μ' 4 0 0 0 [(0, .ref (b + l0)), (1, .int l1), (2, .int l2), (3, .int l3)] [] μ := by
  unfold f_X12_frame at hf
  refine r_iload_n hB 1 rfl (by decide +kernel : decode cX12_frame 0 = .ok (.iload_n 1, 1)) rfl ?_
  refine r_cSi hB [.int l1] [] (own := "PulseRemoteModel") rfl cmX12_isSlot smX12_isSlot (Or.inl ⟨rfl, k_1367⟩) (by decide) rfl rfl rfl (Nat.le_of_ble_eq_true rfl) (by decide +kernel : decode cX12_frame 1 = .ok (.invokestatic 199, 3)) (fun z hz => m_X12_isSlot _ _ _ _ hz) rfl hf (fun z1 hf => ?_)
  refine r_if_eq hB (tgt := 20) (by decide +kernel : decode cX12_frame 4 = .ok (.ifCond .eq 16, 3)) (by decide) hf (fun _ hf => ?_) (fun _ hf => ?_)
  · refine r_iconst hB (v := (-1)) (by decide +kernel : decode cX12_frame 20 = .ok (.iconst (-1), 1)) (by decide +kernel) ?_
    obtain rfl := Option.some.inj hf
    obtain ⟨rfl, rfl⟩ := hk
    exact r_iret hB (by decide +kernel : decode cX12_frame 21 = .ok (.ireturn, 1))
  · refine r_iload_n hB 2 rfl (by decide +kernel : decode cX12_frame 7 = .ok (.iload_n 2, 1)) rfl ?_
    refine r_if_lt hB (tgt := 20) (by decide +kernel : decode cX12_frame 8 = .ok (.ifCond .lt 12, 3)) (by decide) hf (fun _ hf => ?_) (fun _ hf => ?_)
    · refine r_iconst hB (v := (-1)) (by decide +kernel : decode cX12_frame 20 = .ok (.iconst (-1), 1)) (by decide +kernel) ?_
      obtain rfl := Option.some.inj hf
      obtain ⟨rfl, rfl⟩ := hk
      exact r_iret hB (by decide +kernel : decode cX12_frame 21 = .ok (.ireturn, 1))
    · refine r_iload_n hB 3 rfl (by decide +kernel : decode cX12_frame 11 = .ok (.iload_n 3, 1)) rfl ?_
      refine r_iconst hB (v := 0) (by decide +kernel : decode cX12_frame 12 = .ok (.iconst 0, 1)) (by decide +kernel) ?_
      refine r_iconst hB (v := 4) (by decide +kernel : decode cX12_frame 13 = .ok (.iconst 4, 1)) (by decide +kernel) ?_
      refine r_cSi hB [.int l3, .int 0, .int 4] [] (own := "PulseRemoteModel") rfl cmX12_in smX12_in (Or.inl ⟨rfl, k_1233⟩) (by decide) rfl rfl rfl (Nat.le_of_ble_eq_true rfl) (by decide +kernel : decode cX12_frame 14 = .ok (.invokestatic 68, 3)) (fun z hz => m_X12_in _ _ _ _ hz) rfl hf (fun z14 hf => ?_)
      refine r_if_ne hB (tgt := 22) (by decide +kernel : decode cX12_frame 17 = .ok (.ifCond .ne 5, 3)) (by decide) hf (fun _ hf => ?_) (fun _ hf => ?_)
      · refine r_iconst hB (v := (-1)) (by decide +kernel : decode cX12_frame 20 = .ok (.iconst (-1), 1)) (by decide +kernel) ?_
        obtain rfl := Option.some.inj hf
        obtain ⟨rfl, rfl⟩ := hk
        exact r_iret hB (by decide +kernel : decode cX12_frame 21 = .ok (.ireturn, 1))
      · refine r_aload_n hB 0 rfl (by decide +kernel : decode cX12_frame 22 = .ok (.aload_n 0, 1)) rfl ?_
        refine r_iload_n hB 1 rfl (by decide +kernel : decode cX12_frame 23 = .ok (.iload_n 1, 1)) rfl ?_
        refine r_cVv hB [.int l1] [] cf12 (own := "PulseRemoteModel") rfl cmX12_opens imX12_opens (Or.inl k_1440) (by decide) rfl rfl rfl (Nat.le_of_ble_eq_true rfl) (by decide +kernel : decode cX12_frame 24 = .ok (.invokevirtual 277, 3)) (fun z hz => m_X12_opens _ _ _ _ hz) rfl hf (fun z24 hf => ?_)
        refine r_iload_n hB 2 rfl (by decide +kernel : decode cX12_frame 27 = .ok (.iload_n 2, 1)) rfl ?_
        refine r_aload_n hB 0 rfl (by decide +kernel : decode cX12_frame 28 = .ok (.aload_n 0, 1)) rfl ?_
        refine r_gI hB cf12 21 (by decide) (own := "PulseRemoteModel") rfl (Or.inl k_1136) (by decide +kernel) (by decide +kernel : decode cX12_frame 29 = .ok (.getfield 224, 3)) hf (fun x29 hf => ?_)
        refine r_icmp_lt hB (tgt := 38) (by decide +kernel : decode cX12_frame 32 = .ok (.if_icmp .lt 6, 3)) (by decide) hf (fun _ hf => ?_) (fun _ hf => ?_)
        · refine r_iload_n hB 3 rfl (by decide +kernel : decode cX12_frame 38 = .ok (.iload_n 3, 1)) rfl ?_
          refine r_iconst hB (v := 2) (by decide +kernel : decode cX12_frame 39 = .ok (.iconst 2, 1)) (by decide +kernel) ?_
          refine r_icmp_ge hB (tgt := 63) (by decide +kernel : decode cX12_frame 40 = .ok (.if_icmp .ge 23, 3)) (by decide) hf (fun _ hf => ?_) (fun _ hf => ?_)
          · refine r_aload_n hB 0 rfl (by decide +kernel : decode cX12_frame 63 = .ok (.aload_n 0, 1)) rfl ?_
            refine r_iload_n hB 2 rfl (by decide +kernel : decode cX12_frame 64 = .ok (.iload_n 2, 1)) rfl ?_
            refine r_cVi hB [.int l2] [] cf12 (own := "PulseRemoteModel") rfl cmX12_decodes imX12_decodes (Or.inl k_1452) (by decide) rfl rfl rfl (Nat.le_of_ble_eq_true rfl) (by decide +kernel : decode cX12_frame 65 = .ok (.invokevirtual 280, 3)) (fun z hz => m_X12_decodes _ _ _ _ hz) rfl hf (fun z65 hf => ?_)
            refine r_if_ne hB (tgt := 74) (by decide +kernel : decode cX12_frame 68 = .ok (.ifCond .ne 6, 3)) (by decide) hf (fun _ hf => ?_) (fun _ hf => ?_)
            · refine r_bipush hB (v := (-9)) (by decide +kernel : decode cX12_frame 71 = .ok (.bipush (-9), 2)) (by decide +kernel) ?_
              obtain rfl := Option.some.inj hf
              obtain ⟨rfl, rfl⟩ := hk
              exact r_iret hB (by decide +kernel : decode cX12_frame 73 = .ok (.ireturn, 1))
            · refine r_iload_n hB 3 rfl (by decide +kernel : decode cX12_frame 74 = .ok (.iload_n 3, 1)) rfl ?_
              refine r_iconst hB (v := 2) (by decide +kernel : decode cX12_frame 75 = .ok (.iconst 2, 1)) (by decide +kernel) ?_
              refine r_icmp_ne hB (tgt := 86) (by decide +kernel : decode cX12_frame 76 = .ok (.if_icmp .ne 10, 3)) (by decide) hf (fun _ hf => ?_) (fun _ hf => ?_)
              · refine r_aload_n hB 0 rfl (by decide +kernel : decode cX12_frame 79 = .ok (.aload_n 0, 1)) rfl ?_
                refine r_gI hB cf12 26 (by decide) (own := "PulseRemoteModel") rfl (Or.inl k_1141) (by decide +kernel) (by decide +kernel : decode cX12_frame 80 = .ok (.getfield 265, 3)) hf (fun x80 hf => ?_)
                refine r_goto hB (tgt := 110) (by decide +kernel : decode cX12_frame 83 = .ok (.goto 27, 3)) (by decide) ?_
                obtain rfl := Option.some.inj hf
                obtain ⟨rfl, rfl⟩ := hk
                exact r_iret hB (by decide +kernel : decode cX12_frame 110 = .ok (.ireturn, 1))
              · refine r_iload_n hB 3 rfl (by decide +kernel : decode cX12_frame 86 = .ok (.iload_n 3, 1)) rfl ?_
                refine r_iconst hB (v := 3) (by decide +kernel : decode cX12_frame 87 = .ok (.iconst 3, 1)) (by decide +kernel) ?_
                refine r_icmp_ne hB (tgt := 98) (by decide +kernel : decode cX12_frame 88 = .ok (.if_icmp .ne 10, 3)) (by decide) hf (fun _ hf => ?_) (fun _ hf => ?_)
                · refine r_aload_n hB 0 rfl (by decide +kernel : decode cX12_frame 91 = .ok (.aload_n 0, 1)) rfl ?_
                  refine r_gI hB cf12 27 (by decide) (own := "PulseRemoteModel") rfl (Or.inl k_1142) (by decide +kernel) (by decide +kernel : decode cX12_frame 92 = .ok (.getfield 268, 3)) hf (fun x92 hf => ?_)
                  refine r_goto hB (tgt := 110) (by decide +kernel : decode cX12_frame 95 = .ok (.goto 15, 3)) (by decide) ?_
                  obtain rfl := Option.some.inj hf
                  obtain ⟨rfl, rfl⟩ := hk
                  exact r_iret hB (by decide +kernel : decode cX12_frame 110 = .ok (.ireturn, 1))
                · refine r_aload_n hB 0 rfl (by decide +kernel : decode cX12_frame 98 = .ok (.aload_n 0, 1)) rfl ?_
                  refine r_gI hB cf12 28 (by decide) (own := "PulseRemoteModel") rfl (Or.inl k_1143) (by decide +kernel) (by decide +kernel : decode cX12_frame 99 = .ok (.getfield 259, 3)) hf (fun x99 hf => ?_)
                  refine r_if_eq hB (tgt := 109) (by decide +kernel : decode cX12_frame 102 = .ok (.ifCond .eq 7, 3)) (by decide) hf (fun _ hf => ?_) (fun _ hf => ?_)
                  · refine r_iconst hB (v := 0) (by decide +kernel : decode cX12_frame 109 = .ok (.iconst 0, 1)) (by decide +kernel) ?_
                    obtain rfl := Option.some.inj hf
                    obtain ⟨rfl, rfl⟩ := hk
                    exact r_iret hB (by decide +kernel : decode cX12_frame 110 = .ok (.ireturn, 1))
                  · refine r_iconst hB (v := 1) (by decide +kernel : decode cX12_frame 105 = .ok (.iconst 1, 1)) (by decide +kernel) ?_
                    refine r_goto hB (tgt := 110) (by decide +kernel : decode cX12_frame 106 = .ok (.goto 4, 3)) (by decide) ?_
                    obtain rfl := Option.some.inj hf
                    obtain ⟨rfl, rfl⟩ := hk
                    exact r_iret hB (by decide +kernel : decode cX12_frame 110 = .ok (.ireturn, 1))
          · refine r_iload_n hB 3 rfl (by decide +kernel : decode cX12_frame 43 = .ok (.iload_n 3, 1)) rfl ?_
            refine r_if_ne hB (tgt := 56) (by decide +kernel : decode cX12_frame 44 = .ok (.ifCond .ne 12, 3)) (by decide) hf (fun _ hf => ?_) (fun _ hf => ?_)
            · refine r_aload_n hB 0 rfl (by decide +kernel : decode cX12_frame 47 = .ok (.aload_n 0, 1)) rfl ?_
              refine r_gR hB cf12 19 (by decide) (own := "PulseRemoteModel") rfl (Or.inl k_1134) (by decide +kernel) (by decide +kernel : decode cX12_frame 48 = .ok (.getfield 38, 3)) hf (fun x48 hf => ?_)
              refine r_iload_n hB 2 rfl (by decide +kernel : decode cX12_frame 51 = .ok (.iload_n 2, 1)) rfl ?_
              refine r_iald hB (by decide +kernel : decode cX12_frame 52 = .ok (.iaload, 1)) hf (fun x52 hf => ?_)
              refine r_goto hB (tgt := 62) (by decide +kernel : decode cX12_frame 53 = .ok (.goto 9, 3)) (by decide) ?_
              obtain rfl := Option.some.inj hf
              obtain ⟨rfl, rfl⟩ := hk
              exact r_iret hB (by decide +kernel : decode cX12_frame 62 = .ok (.ireturn, 1))
            · refine r_aload_n hB 0 rfl (by decide +kernel : decode cX12_frame 56 = .ok (.aload_n 0, 1)) rfl ?_
              refine r_gR hB cf12 20 (by decide) (own := "PulseRemoteModel") rfl (Or.inl k_1135) (by decide +kernel) (by decide +kernel : decode cX12_frame 57 = .ok (.getfield 41, 3)) hf (fun x57 hf => ?_)
              refine r_iload_n hB 2 rfl (by decide +kernel : decode cX12_frame 60 = .ok (.iload_n 2, 1)) rfl ?_
              refine r_iald hB (by decide +kernel : decode cX12_frame 61 = .ok (.iaload, 1)) hf (fun x61 hf => ?_)
              obtain rfl := Option.some.inj hf
              obtain ⟨rfl, rfl⟩ := hk
              exact r_iret hB (by decide +kernel : decode cX12_frame 62 = .ok (.ireturn, 1))
        · refine r_bipush hB (v := (-9)) (by decide +kernel : decode cX12_frame 35 = .ok (.bipush (-9), 2)) (by decide +kernel) ?_
          obtain rfl := Option.some.inj hf
          obtain ⟨rfl, rfl⟩ := hk
          exact r_iret hB (by decide +kernel : decode cX12_frame 37 = .ok (.ireturn, 1))
theorem m_X12_frame (l : Launch) (D : va_G) (cy : Nat → ClassId) (b : Nat) {l0 : Nat} {l1 : Int32} {l2 : Int32} {l3 : Int32} {μ : MS} {z : Int32 × MS} (hf : f_X12_frame l0 l1 l2 l3 μ = some z) : Met l yX12_frame (.code yX12_frame cX12_frame 4 (some .int) :: GW) rmX12_frame (Pw D cy b [.ref (b + l0), .int l1, .int l2, .int l3] μ) (Qw D cy b (some (.int z.1)) (z.2)) rmX12_frame.cells rmX12_frame.slots (fun q => b ≤ q) :=
  met_of (by decide) (Nat.le_of_ble_eq_true rfl) (fun X hB _ => (t_X12_frame_0 hB hf ⟨rfl, rfl⟩))
-- PulseRemoteModel.deviation(II)I
set_option maxHeartbeats 4000000 in
set_option maxRecDepth 100000 in
theorem t_X12_deviation_172 {X : BX} {D : va_G} {cy : Nat → ClassId} {b : Nat} {r : Option Value} {μ' : MS} (hB : BB X D cy b yX12_deviation cX12_deviation 8 (some .int) rmX12_deviation) {l3 : Int32} {μ : MS} {z : (Int32 × MS)} (hf : f_X12_deviation_172 l3 μ = some z) (hk : (fun z : Int32 × MS => r = some (.int z.1) ∧ μ' = z.2) z) : WW X D cy b r μ' 8 0 0 172 [(3, .int l3)] [] μ := by
  unfold f_X12_deviation_172 at hf
  refine r_iload_n hB 0 rfl (by decide +kernel : decode cX12_deviation 172 = .ok (.iload_n 3, 1)) rfl ?_
  obtain rfl := Option.some.inj hf
  obtain ⟨rfl, rfl⟩ := hk
  exact r_iret hB (by decide +kernel : decode cX12_deviation 173 = .ok (.ireturn, 1))
set_option maxHeartbeats 4000000 in
set_option maxRecDepth 100000 in
theorem t_X12_deviation_165 {X : BX} {D : va_G} {cy : Nat → ClassId} {b : Nat} {r : Option Value} {μ' : MS} (hB : BB X D cy b yX12_deviation cX12_deviation 8 (some .int) rmX12_deviation) {l0 : Nat} {l2 : Int32} {l4 : Int32} {s0 : Int32} {μ : MS} {z : ((Nat × Int32 × Int32 × Int32 × MS) ⊕ (Int32 × MS))} (hf : f_X12_deviation_165 l0 l2 l4 s0 μ = some z) (hk : (Sum.elim (fun s : Nat × Int32 × Int32 × Int32 × MS => WW X D cy b r μ' 8 0 0 72 [(0, .ref (b + s.1)), (2, .int s.2.1), (3, .int s.2.2.1), (4, .int s.2.2.2.1)] [] s.2.2.2.2) (fun z : Int32 × MS => r = some (.int z.1) ∧ μ' = z.2)) z) : WW X D cy b r μ' 8 0 0 165 [(0, .ref (b + l0)), (2, .int l2), (4, .int l4)] [.int s0] μ := by
  unfold f_X12_deviation_165 at hf
  refine r_istore_n hB (by decide +kernel : decode cX12_deviation 165 = .ok (.istore_n 3, 1)) rfl (by decide) rfl ?_
  refine ww_lv (lv' := [(3, .int s0), (0, .ref (b + l0)), (2, .int l2), (4, .int l4)]) rfl ?_
  refine r_iincB hB 3 rfl (by decide +kernel : decode cX12_deviation 166 = .ok (.iinc 4 1, 3)) (w := 1) (by decide +kernel) (by decide) hf (fun v166 hf => ?_)
  refine ww_lv (lv' := [(4, .int v166), (3, .int s0), (0, .ref (b + l0)), (2, .int l2)]) rfl ?_
  refine r_goto hB (tgt := 72) (by decide +kernel : decode cX12_deviation 169 = .ok (.goto (-97), 3)) (by decide) ?_
  obtain rfl := Option.some.inj hf
  exact WW.sub [2, 3, 1, 0] rfl hk
set_option maxHeartbeats 4000000 in
set_option maxRecDepth 100000 in
theorem t_X12_deviation_132 {X : BX} {D : va_G} {cy : Nat → ClassId} {b : Nat} {r : Option Value} {μ' : MS} (hB : BB X D cy b yX12_deviation cX12_deviation 8 (some .int) rmX12_deviation) {l0 : Nat} {l2 : Int32} {l3 : Int32} {l4 : Int32} {s0 : Int32} {μ : MS} {z : ((Nat × Int32 × Int32 × Int32 × MS) ⊕ (Int32 × MS))} (hf : f_X12_deviation_132 l0 l2 l3 l4 s0 μ = some z) (hk : (Sum.elim (fun s : Nat × Int32 × Int32 × Int32 × MS => WW X D cy b r μ' 8 0 0 72 [(0, .ref (b + s.1)), (2, .int s.2.1), (3, .int s.2.2.1), (4, .int s.2.2.2.1)] [] s.2.2.2.2) (fun z : Int32 × MS => r = some (.int z.1) ∧ μ' = z.2)) z) : WW X D cy b r μ' 8 0 0 132 [(0, .ref (b + l0)), (2, .int l2), (3, .int l3), (4, .int l4)] [.int s0] μ := by
  unfold f_X12_deviation_132 at hf
  refine r_istore hB (by decide +kernel : decode cX12_deviation 132 = .ok (.istore 6, 2)) (by decide) rfl ?_
  refine ww_lv (lv' := [(6, .int s0), (0, .ref (b + l0)), (2, .int l2), (3, .int l3), (4, .int l4)]) rfl ?_
  refine r_ldc2 hB (v := 1000) (own := "PulseRemoteModel") rfl k_1500 (by decide +kernel : decode cX12_deviation 134 = .ok (.ldc2_w 283, 3)) ?_
  refine r_iload hB 0 rfl (by decide +kernel : decode cX12_deviation 137 = .ok (.iload 6, 2)) ?_
  refine r_i2l hB (by decide +kernel : decode cX12_deviation 139 = .ok (.i2l, 1)) ?_
  refine r_lmul hB (by decide +kernel : decode cX12_deviation 140 = .ok (.lmul, 1)) ?_
  refine r_aload_n hB 1 rfl (by decide +kernel : decode cX12_deviation 141 = .ok (.aload_n 0, 1)) rfl ?_
  refine r_gR hB cf12 11 (by decide) (own := "PulseRemoteModel") rfl (Or.inl k_1126) (by decide +kernel) (by decide +kernel : decode cX12_deviation 142 = .ok (.getfield 23, 3)) hf (fun x142 hf => ?_)
  refine r_iload hB 4 rfl (by decide +kernel : decode cX12_deviation 145 = .ok (.iload 4, 2)) ?_
  refine r_iald hB (by decide +kernel : decode cX12_deviation 147 = .ok (.iaload, 1)) hf (fun x147 hf => ?_)
  refine r_i2l hB (by decide +kernel : decode cX12_deviation 148 = .ok (.i2l, 1)) ?_
  refine r_ldiv hB (by decide +kernel : decode cX12_deviation 149 = .ok (.ldiv, 1)) hf (fun v149 hf => ?_)
  refine r_l2i hB (by decide +kernel : decode cX12_deviation 150 = .ok (.l2i, 1)) ?_
  refine r_istore hB (by decide +kernel : decode cX12_deviation 151 = .ok (.istore 7, 2)) (by decide) rfl ?_
  refine ww_lv (lv' := [(7, .int v149.toInt32), (6, .int s0), (0, .ref (b + l0)), (2, .int l2), (3, .int l3), (4, .int l4)]) rfl ?_
  refine r_iload hB 0 rfl (by decide +kernel : decode cX12_deviation 153 = .ok (.iload 7, 2)) ?_
  refine r_iload_n hB 4 rfl (by decide +kernel : decode cX12_deviation 155 = .ok (.iload_n 3, 1)) rfl ?_
  refine r_icmp_le hB (tgt := 164) (by decide +kernel : decode cX12_deviation 156 = .ok (.if_icmp .le 8, 3)) (by decide) hf (fun _ hf => ?_) (fun _ hf => ?_)
  · refine r_iload_n hB 4 rfl (by decide +kernel : decode cX12_deviation 164 = .ok (.iload_n 3, 1)) rfl ?_
    exact WW.sub [2, 3, 5] rfl (t_X12_deviation_165 hB hf hk)
  · refine r_iload hB 0 rfl (by decide +kernel : decode cX12_deviation 159 = .ok (.iload 7, 2)) ?_
    refine r_goto hB (tgt := 165) (by decide +kernel : decode cX12_deviation 161 = .ok (.goto 4, 3)) (by decide) ?_
    exact WW.sub [2, 3, 5] rfl (t_X12_deviation_165 hB hf hk)
set_option maxHeartbeats 4000000 in
set_option maxRecDepth 100000 in
theorem t_X12_deviation_72_b {X : BX} {D : va_G} {cy : Nat → ClassId} {b : Nat} {r : Option Value} {μ' : MS} (hB : BB X D cy b yX12_deviation cX12_deviation 8 (some .int) rmX12_deviation) {l0 : Nat} {l2 : Int32} {l3 : Int32} {l4 : Int32} {μ : MS} {z : ((Nat × Int32 × Int32 × Int32 × MS) ⊕ (Int32 × MS))} (hf : f_X12_deviation_72_b l0 l2 l3 l4 μ = some z) (hk : (Sum.elim (fun s : Nat × Int32 × Int32 × Int32 × MS => WW X D cy b r μ' 8 0 0 72 [(0, .ref (b + s.1)), (2, .int s.2.1), (3, .int s.2.2.1), (4, .int s.2.2.2.1)] [] s.2.2.2.2) (fun z : Int32 × MS => r = some (.int z.1) ∧ μ' = z.2)) z) : WW X D cy b r μ' 8 0 0 72 [(0, .ref (b + l0)), (2, .int l2), (3, .int l3), (4, .int l4)] [] μ := by
  unfold f_X12_deviation_72_b at hf
  refine r_iload hB 3 rfl (by decide +kernel : decode cX12_deviation 72 = .ok (.iload 4, 2)) ?_
  refine r_aload_n hB 0 rfl (by decide +kernel : decode cX12_deviation 74 = .ok (.aload_n 0, 1)) rfl ?_
  refine r_gI hB cf12 12 (by decide) (own := "PulseRemoteModel") rfl (Or.inl k_1127) (by decide +kernel) (by decide +kernel : decode cX12_deviation 75 = .ok (.getfield 179, 3)) hf (fun x75 hf => ?_)
  refine r_icmp_ge hB (tgt := 172) (by decide +kernel : decode cX12_deviation 78 = .ok (.if_icmp .ge 94, 3)) (by decide) hf (fun _ hf => ?_) (fun _ hf => ?_)
  · obtain ⟨_, hx0, rfl⟩ := xr_inv hf
    exact WW.sub [2] rfl (t_X12_deviation_172 hB hx0 hk)
  · refine r_aload_n hB 0 rfl (by decide +kernel : decode cX12_deviation 81 = .ok (.aload_n 0, 1)) rfl ?_
    refine r_gR hB cf12 13 (by decide) (own := "PulseRemoteModel") rfl (Or.inl k_1128) (by decide +kernel) (by decide +kernel : decode cX12_deviation 82 = .ok (.getfield 26, 3)) hf (fun x82 hf => ?_)
    refine r_aload_n hB 0 rfl (by decide +kernel : decode cX12_deviation 85 = .ok (.aload_n 0, 1)) rfl ?_
    refine r_gR hB cf12 19 (by decide) (own := "PulseRemoteModel") rfl (Or.inl k_1134) (by decide +kernel) (by decide +kernel : decode cX12_deviation 86 = .ok (.getfield 38, 3)) hf (fun x86 hf => ?_)
    refine r_iload_n hB 1 rfl (by decide +kernel : decode cX12_deviation 89 = .ok (.iload_n 2, 1)) rfl ?_
    refine r_iald hB (by decide +kernel : decode cX12_deviation 90 = .ok (.iaload, 1)) hf (fun x90 hf => ?_)
    refine r_iload hB 3 rfl (by decide +kernel : decode cX12_deviation 91 = .ok (.iload 4, 2)) ?_
    refine r_iadd hB (by decide +kernel : decode cX12_deviation 93 = .ok (.iadd, 1)) ?_
    refine r_iald hB (by decide +kernel : decode cX12_deviation 94 = .ok (.iaload, 1)) hf (fun x94 hf => ?_)
    refine r_istore hB (by decide +kernel : decode cX12_deviation 95 = .ok (.istore 5, 2)) (by decide) rfl ?_
    refine ww_lv (lv' := [(5, .int x94), (0, .ref (b + l0)), (2, .int l2), (3, .int l3), (4, .int l4)]) rfl ?_
    refine r_iload hB 0 rfl (by decide +kernel : decode cX12_deviation 97 = .ok (.iload 5, 2)) ?_
    refine r_aload_n hB 1 rfl (by decide +kernel : decode cX12_deviation 99 = .ok (.aload_n 0, 1)) rfl ?_
    refine r_gR hB cf12 11 (by decide) (own := "PulseRemoteModel") rfl (Or.inl k_1126) (by decide +kernel) (by decide +kernel : decode cX12_deviation 100 = .ok (.getfield 23, 3)) hf (fun x100 hf => ?_)
    refine r_iload hB 4 rfl (by decide +kernel : decode cX12_deviation 103 = .ok (.iload 4, 2)) ?_
    refine r_iald hB (by decide +kernel : decode cX12_deviation 105 = .ok (.iaload, 1)) hf (fun x105 hf => ?_)
    refine r_icmp_le hB (tgt := 122) (by decide +kernel : decode cX12_deviation 106 = .ok (.if_icmp .le 16, 3)) (by decide) hf (fun _ hf => ?_) (fun _ hf => ?_)
    · refine r_aload_n hB 1 rfl (by decide +kernel : decode cX12_deviation 122 = .ok (.aload_n 0, 1)) rfl ?_
      refine r_gR hB cf12 11 (by decide) (own := "PulseRemoteModel") rfl (Or.inl k_1126) (by decide +kernel) (by decide +kernel : decode cX12_deviation 123 = .ok (.getfield 23, 3)) hf (fun x123 hf => ?_)
      refine r_iload hB 4 rfl (by decide +kernel : decode cX12_deviation 126 = .ok (.iload 4, 2)) ?_
      refine r_iald hB (by decide +kernel : decode cX12_deviation 128 = .ok (.iaload, 1)) hf (fun x128 hf => ?_)
      refine r_iload hB 0 rfl (by decide +kernel : decode cX12_deviation 129 = .ok (.iload 5, 2)) ?_
      refine r_isub hB (by decide +kernel : decode cX12_deviation 131 = .ok (.isub, 1)) ?_
      exact WW.sub [1, 2, 3, 4] rfl (t_X12_deviation_132 hB hf hk)
    · refine r_iload hB 0 rfl (by decide +kernel : decode cX12_deviation 109 = .ok (.iload 5, 2)) ?_
      refine r_aload_n hB 1 rfl (by decide +kernel : decode cX12_deviation 111 = .ok (.aload_n 0, 1)) rfl ?_
      refine r_gR hB cf12 11 (by decide) (own := "PulseRemoteModel") rfl (Or.inl k_1126) (by decide +kernel) (by decide +kernel : decode cX12_deviation 112 = .ok (.getfield 23, 3)) hf (fun x112 hf => ?_)
      refine r_iload hB 4 rfl (by decide +kernel : decode cX12_deviation 115 = .ok (.iload 4, 2)) ?_
      refine r_iald hB (by decide +kernel : decode cX12_deviation 117 = .ok (.iaload, 1)) hf (fun x117 hf => ?_)
      refine r_isub hB (by decide +kernel : decode cX12_deviation 118 = .ok (.isub, 1)) ?_
      refine r_goto hB (tgt := 132) (by decide +kernel : decode cX12_deviation 119 = .ok (.goto 13, 3)) (by decide) ?_
      exact WW.sub [1, 2, 3, 4] rfl (t_X12_deviation_132 hB hf hk)
set_option maxHeartbeats 4000000 in
set_option maxRecDepth 100000 in
theorem t_X12_deviation_72 {X : BX} {D : va_G} {cy : Nat → ClassId} {b : Nat} {r : Option Value} {μ' : MS} (hB : BB X D cy b yX12_deviation cX12_deviation 8 (some .int) rmX12_deviation) {l0 : Nat} {l2 : Int32} {l3 : Int32} {l4 : Int32} {μ : MS} {z : (Int32 × MS)} (hf : f_X12_deviation_72 l0 l2 l3 l4 μ = some z) (hk : (fun z : Int32 × MS => r = some (.int z.1) ∧ μ' = z.2) z) : WW X D cy b r μ' 8 0 0 72 [(0, .ref (b + l0)), (2, .int l2), (3, .int l3), (4, .int l4)] [] μ :=
  lp_ind (P := fun s : Nat × Int32 × Int32 × Int32 × MS => WW X D cy b r μ' 8 0 0 72 [(0, .ref (b + s.1)), (2, .int s.2.1), (3, .int s.2.2.1), (4, .int s.2.2.2.1)] [] s.2.2.2.2) (Q := (fun z : Int32 × MS => r = some (.int z.1) ∧ μ' = z.2)) (fun s z hz hk => t_X12_deviation_72_b hB hz hk) (l0, l2, l3, l4, μ) z hf hk
set_option maxHeartbeats 4000000 in
set_option maxRecDepth 100000 in
theorem t_X12_deviation_67 {X : BX} {D : va_G} {cy : Nat → ClassId} {b : Nat} {r : Option Value} {μ' : MS} (hB : BB X D cy b yX12_deviation cX12_deviation 8 (some .int) rmX12_deviation) {l0 : Nat} {l2 : Int32} {μ : MS} {z : (Int32 × MS)} (hf : f_X12_deviation_67 l0 l2 μ = some z) (hk : (fun z : Int32 × MS => r = some (.int z.1) ∧ μ' = z.2) z) : WW X D cy b r μ' 8 0 0 67 [(0, .ref (b + l0)), (2, .int l2)] [] μ := by
  unfold f_X12_deviation_67 at hf
  refine r_iconst hB (v := 0) (by decide +kernel : decode cX12_deviation 67 = .ok (.iconst 0, 1)) (by decide +kernel) ?_
  refine r_istore_n hB (by decide +kernel : decode cX12_deviation 68 = .ok (.istore_n 3, 1)) rfl (by decide) rfl ?_
  refine ww_lv (lv' := [(3, .int 0), (0, .ref (b + l0)), (2, .int l2)]) rfl ?_
  refine r_iconst hB (v := 0) (by decide +kernel : decode cX12_deviation 69 = .ok (.iconst 0, 1)) (by decide +kernel) ?_
  refine r_istore hB (by decide +kernel : decode cX12_deviation 70 = .ok (.istore 4, 2)) (by decide) rfl ?_
  refine ww_lv (lv' := [(4, .int 0), (3, .int 0), (0, .ref (b + l0)), (2, .int l2)]) rfl ?_
  exact WW.sub [2, 3, 1, 0] rfl (t_X12_deviation_72 hB hf hk)
set_option maxHeartbeats 4000000 in
set_option maxRecDepth 100000 in
theorem t_X12_deviation_0 {X : BX} {D : va_G} {cy : Nat → ClassId} {b : Nat} {r : Option Value} {μ' : MS} (hB : BB X D cy b yX12_deviation cX12_deviation 8 (some .int) rmX12_deviation) {l0 : Nat} {l1 : Int32} {l2 : Int32} {μ : MS} {z : (Int32 × MS)} (hf : f_X12_deviation l0 l1 l2 μ = some z) (hk : (fun z : Int32 × MS => r = some (.int z.1) ∧ μ' = z.2) z) : WW X D cy b r μ' 8 0 0 0 [(0, .ref (b + l0)), (1, .int l1), (2, .int l2)] [] μ := by
  unfold f_X12_deviation at hf
  refine r_iload_n hB 1 rfl (by decide +kernel : decode cX12_deviation 0 = .ok (.iload_n 1, 1)) rfl ?_
  refine r_cSi hB [.int l1] [] (own := "PulseRemoteModel") rfl cmX12_isSlot smX12_isSlot (Or.inl ⟨rfl, k_1367⟩) (by decide) rfl rfl rfl (Nat.le_of_ble_eq_true rfl) (by decide +kernel : decode cX12_deviation 1 = .ok (.invokestatic 199, 3)) (fun z hz => m_X12_isSlot _ _ _ _ hz) rfl hf (fun z1 hf => ?_)
  refine r_if_eq hB (tgt := 11) (by decide +kernel : decode cX12_deviation 4 = .ok (.ifCond .eq 7, 3)) (by decide) hf (fun _ hf => ?_) (fun _ hf => ?_)
  · refine r_iconst hB (v := (-1)) (by decide +kernel : decode cX12_deviation 11 = .ok (.iconst (-1), 1)) (by decide +kernel) ?_
    obtain rfl := Option.some.inj hf
    obtain ⟨rfl, rfl⟩ := hk
    exact r_iret hB (by decide +kernel : decode cX12_deviation 12 = .ok (.ireturn, 1))
  · refine r_iload_n hB 2 rfl (by decide +kernel : decode cX12_deviation 7 = .ok (.iload_n 2, 1)) rfl ?_
    refine r_if_ge hB (tgt := 13) (by decide +kernel : decode cX12_deviation 8 = .ok (.ifCond .ge 5, 3)) (by decide) hf (fun _ hf => ?_) (fun _ hf => ?_)
    · refine r_aload_n hB 0 rfl (by decide +kernel : decode cX12_deviation 13 = .ok (.aload_n 0, 1)) rfl ?_
      refine r_iload_n hB 1 rfl (by decide +kernel : decode cX12_deviation 14 = .ok (.iload_n 1, 1)) rfl ?_
      refine r_cVv hB [.int l1] [] cf12 (own := "PulseRemoteModel") rfl cmX12_opens imX12_opens (Or.inl k_1440) (by decide) rfl rfl rfl (Nat.le_of_ble_eq_true rfl) (by decide +kernel : decode cX12_deviation 15 = .ok (.invokevirtual 277, 3)) (fun z hz => m_X12_opens _ _ _ _ hz) rfl hf (fun z15 hf => ?_)
      refine r_iload_n hB 2 rfl (by decide +kernel : decode cX12_deviation 18 = .ok (.iload_n 2, 1)) rfl ?_
      refine r_aload_n hB 0 rfl (by decide +kernel : decode cX12_deviation 19 = .ok (.aload_n 0, 1)) rfl ?_
      refine r_gI hB cf12 21 (by decide) (own := "PulseRemoteModel") rfl (Or.inl k_1136) (by decide +kernel) (by decide +kernel : decode cX12_deviation 20 = .ok (.getfield 224, 3)) hf (fun x20 hf => ?_)
      refine r_icmp_ge hB (tgt := 34) (by decide +kernel : decode cX12_deviation 23 = .ok (.if_icmp .ge 11, 3)) (by decide) hf (fun _ hf => ?_) (fun _ hf => ?_)
      · refine r_bipush hB (v := (-9)) (by decide +kernel : decode cX12_deviation 34 = .ok (.bipush (-9), 2)) (by decide +kernel) ?_
        obtain rfl := Option.some.inj hf
        obtain ⟨rfl, rfl⟩ := hk
        exact r_iret hB (by decide +kernel : decode cX12_deviation 36 = .ok (.ireturn, 1))
      · refine r_aload_n hB 0 rfl (by decide +kernel : decode cX12_deviation 26 = .ok (.aload_n 0, 1)) rfl ?_
        refine r_iload_n hB 2 rfl (by decide +kernel : decode cX12_deviation 27 = .ok (.iload_n 2, 1)) rfl ?_
        refine r_cVi hB [.int l2] [] cf12 (own := "PulseRemoteModel") rfl cmX12_decodes imX12_decodes (Or.inl k_1452) (by decide) rfl rfl rfl (Nat.le_of_ble_eq_true rfl) (by decide +kernel : decode cX12_deviation 28 = .ok (.invokevirtual 280, 3)) (fun z hz => m_X12_decodes _ _ _ _ hz) rfl hf (fun z28 hf => ?_)
        refine r_if_ne hB (tgt := 37) (by decide +kernel : decode cX12_deviation 31 = .ok (.ifCond .ne 6, 3)) (by decide) hf (fun _ hf => ?_) (fun _ hf => ?_)
        · refine r_bipush hB (v := (-9)) (by decide +kernel : decode cX12_deviation 34 = .ok (.bipush (-9), 2)) (by decide +kernel) ?_
          obtain rfl := Option.some.inj hf
          obtain ⟨rfl, rfl⟩ := hk
          exact r_iret hB (by decide +kernel : decode cX12_deviation 36 = .ok (.ireturn, 1))
        · refine r_aload_n hB 0 rfl (by decide +kernel : decode cX12_deviation 37 = .ok (.aload_n 0, 1)) rfl ?_
          refine r_gI hB cf12 28 (by decide) (own := "PulseRemoteModel") rfl (Or.inl k_1143) (by decide +kernel) (by decide +kernel : decode cX12_deviation 38 = .ok (.getfield 259, 3)) hf (fun x38 hf => ?_)
          refine r_if_eq hB (tgt := 55) (by decide +kernel : decode cX12_deviation 41 = .ok (.ifCond .eq 14, 3)) (by decide) hf (fun _ hf => ?_) (fun _ hf => ?_)
          · refine r_aload_n hB 0 rfl (by decide +kernel : decode cX12_deviation 55 = .ok (.aload_n 0, 1)) rfl ?_
            refine r_aload_n hB 0 rfl (by decide +kernel : decode cX12_deviation 56 = .ok (.aload_n 0, 1)) rfl ?_
            refine r_gI hB cf12 26 (by decide) (own := "PulseRemoteModel") rfl (Or.inl k_1141) (by decide +kernel) (by decide +kernel : decode cX12_deviation 57 = .ok (.getfield 265, 3)) hf (fun x57 hf => ?_)
            refine r_aload_n hB 0 rfl (by decide +kernel : decode cX12_deviation 60 = .ok (.aload_n 0, 1)) rfl ?_
            refine r_gI hB cf12 27 (by decide) (own := "PulseRemoteModel") rfl (Or.inl k_1142) (by decide +kernel) (by decide +kernel : decode cX12_deviation 61 = .ok (.getfield 268, 3)) hf (fun x61 hf => ?_)
            refine r_cVv hB [.int x57, .int x61] [] cf12 (own := "PulseRemoteModel") rfl cmX12_makes imX12_makes (Or.inl k_1377) (by decide) rfl rfl rfl (Nat.le_of_ble_eq_true rfl) (by decide +kernel : decode cX12_deviation 64 = .ok (.invokevirtual 202, 3)) (fun z hz => m_X12_makes _ _ _ _ hz) rfl hf (fun z64 hf => ?_)
            exact WW.sub [0, 2] rfl (t_X12_deviation_67 hB hf hk)
          · refine r_aload_n hB 0 rfl (by decide +kernel : decode cX12_deviation 44 = .ok (.aload_n 0, 1)) rfl ?_
            refine r_aload_n hB 0 rfl (by decide +kernel : decode cX12_deviation 45 = .ok (.aload_n 0, 1)) rfl ?_
            refine r_gI hB cf12 26 (by decide) (own := "PulseRemoteModel") rfl (Or.inl k_1141) (by decide +kernel) (by decide +kernel : decode cX12_deviation 46 = .ok (.getfield 265, 3)) hf (fun x46 hf => ?_)
            refine r_cVv hB [.int x46] [] cf12 (own := "PulseRemoteModel") rfl cmX12_makesShort imX12_makesShort (Or.inl k_1401) (by decide) rfl rfl rfl (Nat.le_of_ble_eq_true rfl) (by decide +kernel : decode cX12_deviation 49 = .ok (.invokevirtual 208, 3)) (fun z hz => m_X12_makesShort _ _ _ _ hz) rfl hf (fun z49 hf => ?_)
            refine r_goto hB (tgt := 67) (by decide +kernel : decode cX12_deviation 52 = .ok (.goto 15, 3)) (by decide) ?_
            exact WW.sub [0, 2] rfl (t_X12_deviation_67 hB hf hk)
    · refine r_iconst hB (v := (-1)) (by decide +kernel : decode cX12_deviation 11 = .ok (.iconst (-1), 1)) (by decide +kernel) ?_
      obtain rfl := Option.some.inj hf
      obtain ⟨rfl, rfl⟩ := hk
      exact r_iret hB (by decide +kernel : decode cX12_deviation 12 = .ok (.ireturn, 1))
theorem m_X12_deviation (l : Launch) (D : va_G) (cy : Nat → ClassId) (b : Nat) {l0 : Nat} {l1 : Int32} {l2 : Int32} {μ : MS} {z : Int32 × MS} (hf : f_X12_deviation l0 l1 l2 μ = some z) : Met l yX12_deviation (.code yX12_deviation cX12_deviation 8 (some .int) :: GW) rmX12_deviation (Pw D cy b [.ref (b + l0), .int l1, .int l2] μ) (Qw D cy b (some (.int z.1)) (z.2)) rmX12_deviation.cells rmX12_deviation.slots (fun q => b ≤ q) :=
  met_of (by decide) (Nat.le_of_ble_eq_true rfl) (fun X hB _ => (t_X12_deviation_0 hB hf ⟨rfl, rfl⟩))
-- PulseRemoteModel.findsPresses(I)V
set_option maxHeartbeats 4000000 in
set_option maxRecDepth 100000 in
theorem t_X12_findsPresses_288 {X : BX} {D : va_G} {cy : Nat → ClassId} {b : Nat} {r : Option Value} {μ' : MS} (hB : BB X D cy b yX12_findsPresses cX12_findsPresses 10 none rmX12_findsPresses)  {μ : MS} {z : MS} (hf : f_X12_findsPresses_288  μ = some z) (hk : (fun z : MS => r = none ∧ μ' = z) z) : WW X D cy b r μ' 10 0 0 288 [] [] μ := by
  unfold f_X12_findsPresses_288 at hf
  obtain rfl := Option.some.inj hf
  obtain ⟨rfl, rfl⟩ := hk
  exact r_vret hB (by decide +kernel : decode cX12_findsPresses 288 = .ok (.return_, 1))
set_option maxHeartbeats 4000000 in
set_option maxRecDepth 100000 in
theorem t_X12_findsPresses_282 {X : BX} {D : va_G} {cy : Nat → ClassId} {b : Nat} {r : Option Value} {μ' : MS} (hB : BB X D cy b yX12_findsPresses cX12_findsPresses 10 none rmX12_findsPresses) {l0 : Nat} {l2 : Int32} {l3 : Int32} {l4 : Int32} {l5 : Int32} {l6 : Int32} {μ : MS} {z : ((Nat × Int32 × Int32 × Int32 × Int32 × Int32 × MS) ⊕ MS)} (hf : f_X12_findsPresses_282 l0 l2 l3 l4 l5 l6 μ = some z) (hk : (Sum.elim (fun s : Nat × Int32 × Int32 × Int32 × Int32 × Int32 × MS => WW X D cy b r μ' 10 0 0 28 [(0, .ref (b + s.1)), (2, .int s.2.1), (3, .int s.2.2.1), (4, .int s.2.2.2.1), (5, .int s.2.2.2.2.1), (6, .int s.2.2.2.2.2.1)] [] s.2.2.2.2.2.2) (fun z : MS => r = none ∧ μ' = z)) z) : WW X D cy b r μ' 10 0 0 282 [(0, .ref (b + l0)), (2, .int l2), (3, .int l3), (4, .int l4), (5, .int l5), (6, .int l6)] [] μ := by
  unfold f_X12_findsPresses_282 at hf
  refine r_iincB hB 5 rfl (by decide +kernel : decode cX12_findsPresses 282 = .ok (.iinc 6 1, 3)) (w := 1) (by decide +kernel) (by decide) hf (fun v282 hf => ?_)
  refine ww_lv (lv' := [(6, .int v282), (0, .ref (b + l0)), (2, .int l2), (3, .int l3), (4, .int l4), (5, .int l5)]) rfl ?_
  refine r_goto hB (tgt := 28) (by decide +kernel : decode cX12_findsPresses 285 = .ok (.goto (-257), 3)) (by decide) ?_
  obtain rfl := Option.some.inj hf
  exact WW.sub [1, 2, 3, 4, 5, 0] rfl hk
set_option maxHeartbeats 4000000 in
set_option maxRecDepth 100000 in
theorem t_X12_findsPresses_269 {X : BX} {D : va_G} {cy : Nat → ClassId} {b : Nat} {r : Option Value} {μ' : MS} (hB : BB X D cy b yX12_findsPresses cX12_findsPresses 10 none rmX12_findsPresses) {l0 : Nat} {l2 : Int32} {l3 : Int32} {l4 : Int32} {l6 : Int32} {μ : MS} {z : ((Nat × Int32 × Int32 × Int32 × Int32 × Int32 × MS) ⊕ MS)} (hf : f_X12_findsPresses_269 l0 l2 l3 l4 l6 μ = some z) (hk : (Sum.elim (fun s : Nat × Int32 × Int32 × Int32 × Int32 × Int32 × MS => WW X D cy b r μ' 10 0 0 28 [(0, .ref (b + s.1)), (2, .int s.2.1), (3, .int s.2.2.1), (4, .int s.2.2.2.1), (5, .int s.2.2.2.2.1), (6, .int s.2.2.2.2.2.1)] [] s.2.2.2.2.2.2) (fun z : MS => r = none ∧ μ' = z)) z) : WW X D cy b r μ' 10 0 0 269 [(0, .ref (b + l0)), (2, .int l2), (3, .int l3), (4, .int l4), (6, .int l6)] [] μ := by
  unfold f_X12_findsPresses_269 at hf
  refine r_aload_n hB 0 rfl (by decide +kernel : decode cX12_findsPresses 269 = .ok (.aload_n 0, 1)) rfl ?_
  refine r_dup hB (by decide +kernel : decode cX12_findsPresses 270 = .ok (.dup, 1)) rfl ?_
  refine r_gI hB cf12 31 (by decide) (own := "PulseRemoteModel") rfl (Or.inl k_1146) (by decide +kernel) (by decide +kernel : decode cX12_findsPresses 271 = .ok (.getfield 288, 3)) hf (fun x271 hf => ?_)
  refine r_iconst hB (v := 1) (by decide +kernel : decode cX12_findsPresses 274 = .ok (.iconst 1, 1)) (by decide +kernel) ?_
  refine r_iadd hB (by decide +kernel : decode cX12_findsPresses 275 = .ok (.iadd, 1)) ?_
  refine r_pI hB cf12 31 (by decide) (own := "PulseRemoteModel") rfl (Or.inl k_1146) (Or.inl rfl) rfl (by decide +kernel : decode cX12_findsPresses 276 = .ok (.putfield 288, 3)) hf (fun m276 hf => ?_)
  refine r_iconst hB (v := 0) (by decide +kernel : decode cX12_findsPresses 279 = .ok (.iconst 0, 1)) (by decide +kernel) ?_
  refine r_istore hB (by decide +kernel : decode cX12_findsPresses 280 = .ok (.istore 5, 2)) (by decide) rfl ?_
  refine ww_lv (lv' := [(5, .int 0), (0, .ref (b + l0)), (2, .int l2), (3, .int l3), (4, .int l4), (6, .int l6)]) rfl ?_
  exact WW.sub [1, 2, 3, 4, 0, 5] rfl (t_X12_findsPresses_282 hB hf hk)
set_option maxHeartbeats 4000000 in
set_option maxRecDepth 100000 in
theorem t_X12_findsPresses_263 {X : BX} {D : va_G} {cy : Nat → ClassId} {b : Nat} {r : Option Value} {μ' : MS} (hB : BB X D cy b yX12_findsPresses cX12_findsPresses 10 none rmX12_findsPresses) {l0 : Nat} {l2 : Int32} {l3 : Int32} {l4 : Int32} {l6 : Int32} {μ : MS} {z : ((Nat × Int32 × Int32 × Int32 × Int32 × Int32 × MS) ⊕ MS)} (hf : f_X12_findsPresses_263 l0 l2 l3 l4 l6 μ = some z) (hk : (Sum.elim (fun s : Nat × Int32 × Int32 × Int32 × Int32 × Int32 × MS => WW X D cy b r μ' 10 0 0 28 [(0, .ref (b + s.1)), (2, .int s.2.1), (3, .int s.2.2.1), (4, .int s.2.2.2.1), (5, .int s.2.2.2.2.1), (6, .int s.2.2.2.2.2.1)] [] s.2.2.2.2.2.2) (fun z : MS => r = none ∧ μ' = z)) z) : WW X D cy b r μ' 10 0 0 263 [(0, .ref (b + l0)), (2, .int l2), (3, .int l3), (4, .int l4), (6, .int l6)] [] μ := by
  unfold f_X12_findsPresses_263 at hf
  refine r_iconst hB (v := 1) (by decide +kernel : decode cX12_findsPresses 263 = .ok (.iconst 1, 1)) (by decide +kernel) ?_
  refine r_istore hB (by decide +kernel : decode cX12_findsPresses 264 = .ok (.istore 5, 2)) (by decide) rfl ?_
  refine ww_lv (lv' := [(5, .int 1), (0, .ref (b + l0)), (2, .int l2), (3, .int l3), (4, .int l4), (6, .int l6)]) rfl ?_
  refine r_goto hB (tgt := 282) (by decide +kernel : decode cX12_findsPresses 266 = .ok (.goto 16, 3)) (by decide) ?_
  exact WW.sub [1, 2, 3, 4, 0, 5] rfl (t_X12_findsPresses_282 hB hf hk)
set_option maxHeartbeats 4000000 in
set_option maxRecDepth 100000 in
theorem t_X12_findsPresses_211 {X : BX} {D : va_G} {cy : Nat → ClassId} {b : Nat} {r : Option Value} {μ' : MS} (hB : BB X D cy b yX12_findsPresses cX12_findsPresses 10 none rmX12_findsPresses) {l0 : Nat} {l3 : Int32} {l4 : Int32} {l6 : Int32} {s0 : Int32} {μ : MS} {z : ((Nat × Int32 × Int32 × Int32 × Int32 × Int32 × MS) ⊕ MS)} (hf : f_X12_findsPresses_211 l0 l3 l4 l6 s0 μ = some z) (hk : (Sum.elim (fun s : Nat × Int32 × Int32 × Int32 × Int32 × Int32 × MS => WW X D cy b r μ' 10 0 0 28 [(0, .ref (b + s.1)), (2, .int s.2.1), (3, .int s.2.2.1), (4, .int s.2.2.2.1), (5, .int s.2.2.2.2.1), (6, .int s.2.2.2.2.2.1)] [] s.2.2.2.2.2.2) (fun z : MS => r = none ∧ μ' = z)) z) : WW X D cy b r μ' 10 0 0 211 [(0, .ref (b + l0)), (3, .int l3), (4, .int l4), (6, .int l6)] [.int s0] μ := by
  unfold f_X12_findsPresses_211 at hf
  refine r_istore_n hB (by decide +kernel : decode cX12_findsPresses 211 = .ok (.istore_n 2, 1)) rfl (by decide) rfl ?_
  refine ww_lv (lv' := [(2, .int s0), (0, .ref (b + l0)), (3, .int l3), (4, .int l4), (6, .int l6)]) rfl ?_
  refine r_iload_n hB 0 rfl (by decide +kernel : decode cX12_findsPresses 212 = .ok (.iload_n 2, 1)) rfl ?_
  refine r_if_lt hB (tgt := 263) (by decide +kernel : decode cX12_findsPresses 213 = .ok (.ifCond .lt 50, 3)) (by decide) hf (fun _ hf => ?_) (fun _ hf => ?_)
  · exact WW.sub [1, 0, 2, 3, 4] rfl (t_X12_findsPresses_263 hB hf hk)
  · refine r_aload_n hB 1 rfl (by decide +kernel : decode cX12_findsPresses 216 = .ok (.aload_n 0, 1)) rfl ?_
    refine r_gR hB cf12 29 (by decide) (own := "PulseRemoteModel") rfl (Or.inl k_1144) (by decide +kernel) (by decide +kernel : decode cX12_findsPresses 217 = .ok (.getfield 54, 3)) hf (fun x217 hf => ?_)
    refine r_iconst hB (v := 3) (by decide +kernel : decode cX12_findsPresses 220 = .ok (.iconst 3, 1)) (by decide +kernel) ?_
    refine r_iload_n hB 0 rfl (by decide +kernel : decode cX12_findsPresses 221 = .ok (.iload_n 2, 1)) rfl ?_
    refine r_imul hB (by decide +kernel : decode cX12_findsPresses 222 = .ok (.imul, 1)) ?_
    refine r_aload_n hB 1 rfl (by decide +kernel : decode cX12_findsPresses 223 = .ok (.aload_n 0, 1)) rfl ?_
    refine r_gI hB cf12 26 (by decide) (own := "PulseRemoteModel") rfl (Or.inl k_1141) (by decide +kernel) (by decide +kernel : decode cX12_findsPresses 224 = .ok (.getfield 265, 3)) hf (fun x224 hf => ?_)
    refine r_iast hB (by decide +kernel : decode cX12_findsPresses 227 = .ok (.iastore, 1)) hf (fun m227 hf => ?_)
    refine r_aload_n hB 1 rfl (by decide +kernel : decode cX12_findsPresses 228 = .ok (.aload_n 0, 1)) rfl ?_
    refine r_gR hB cf12 29 (by decide) (own := "PulseRemoteModel") rfl (Or.inl k_1144) (by decide +kernel) (by decide +kernel : decode cX12_findsPresses 229 = .ok (.getfield 54, 3)) hf (fun x229 hf => ?_)
    refine r_iconst hB (v := 3) (by decide +kernel : decode cX12_findsPresses 232 = .ok (.iconst 3, 1)) (by decide +kernel) ?_
    refine r_iload_n hB 0 rfl (by decide +kernel : decode cX12_findsPresses 233 = .ok (.iload_n 2, 1)) rfl ?_
    refine r_imul hB (by decide +kernel : decode cX12_findsPresses 234 = .ok (.imul, 1)) ?_
    refine r_iconst hB (v := 1) (by decide +kernel : decode cX12_findsPresses 235 = .ok (.iconst 1, 1)) (by decide +kernel) ?_
    refine r_iadd hB (by decide +kernel : decode cX12_findsPresses 236 = .ok (.iadd, 1)) ?_
    refine r_aload_n hB 1 rfl (by decide +kernel : decode cX12_findsPresses 237 = .ok (.aload_n 0, 1)) rfl ?_
    refine r_gI hB cf12 27 (by decide) (own := "PulseRemoteModel") rfl (Or.inl k_1142) (by decide +kernel) (by decide +kernel : decode cX12_findsPresses 238 = .ok (.getfield 268, 3)) hf (fun x238 hf => ?_)
    refine r_iast hB (by decide +kernel : decode cX12_findsPresses 241 = .ok (.iastore, 1)) hf (fun m241 hf => ?_)
    refine r_aload_n hB 1 rfl (by decide +kernel : decode cX12_findsPresses 242 = .ok (.aload_n 0, 1)) rfl ?_
    refine r_gR hB cf12 29 (by decide) (own := "PulseRemoteModel") rfl (Or.inl k_1144) (by decide +kernel) (by decide +kernel : decode cX12_findsPresses 243 = .ok (.getfield 54, 3)) hf (fun x243 hf => ?_)
    refine r_iconst hB (v := 3) (by decide +kernel : decode cX12_findsPresses 246 = .ok (.iconst 3, 1)) (by decide +kernel) ?_
    refine r_iload_n hB 0 rfl (by decide +kernel : decode cX12_findsPresses 247 = .ok (.iload_n 2, 1)) rfl ?_
    refine r_imul hB (by decide +kernel : decode cX12_findsPresses 248 = .ok (.imul, 1)) ?_
    refine r_iconst hB (v := 2) (by decide +kernel : decode cX12_findsPresses 249 = .ok (.iconst 2, 1)) (by decide +kernel) ?_
    refine r_iadd hB (by decide +kernel : decode cX12_findsPresses 250 = .ok (.iadd, 1)) ?_
    refine r_iconst hB (v := 1) (by decide +kernel : decode cX12_findsPresses 251 = .ok (.iconst 1, 1)) (by decide +kernel) ?_
    refine r_iast hB (by decide +kernel : decode cX12_findsPresses 252 = .ok (.iastore, 1)) hf (fun m252 hf => ?_)
    refine r_aload_n hB 1 rfl (by decide +kernel : decode cX12_findsPresses 253 = .ok (.aload_n 0, 1)) rfl ?_
    refine r_dup hB (by decide +kernel : decode cX12_findsPresses 254 = .ok (.dup, 1)) rfl ?_
    refine r_gI hB cf12 30 (by decide) (own := "PulseRemoteModel") rfl (Or.inl k_1145) (by decide +kernel) (by decide +kernel : decode cX12_findsPresses 255 = .ok (.getfield 285, 3)) hf (fun x255 hf => ?_)
    refine r_iconst hB (v := 1) (by decide +kernel : decode cX12_findsPresses 258 = .ok (.iconst 1, 1)) (by decide +kernel) ?_
    refine r_iadd hB (by decide +kernel : decode cX12_findsPresses 259 = .ok (.iadd, 1)) ?_
    refine r_pI hB cf12 30 (by decide) (own := "PulseRemoteModel") rfl (Or.inl k_1145) (Or.inl rfl) rfl (by decide +kernel : decode cX12_findsPresses 260 = .ok (.putfield 285, 3)) hf (fun m260 hf => ?_)
    exact WW.sub [1, 0, 2, 3, 4] rfl (t_X12_findsPresses_263 hB hf hk)
set_option maxHeartbeats 4000000 in
set_option maxRecDepth 100000 in
theorem t_X12_findsPresses_171 {X : BX} {D : va_G} {cy : Nat → ClassId} {b : Nat} {r : Option Value} {μ' : MS} (hB : BB X D cy b yX12_findsPresses cX12_findsPresses 10 none rmX12_findsPresses) {l0 : Nat} {l2 : Int32} {l3 : Int32} {l4 : Int32} {l6 : Int32} {l7 : Int32} {μ : MS} {z : ((Nat × Int32 × Int32 × Int32 × Int32 × Int32 × MS) ⊕ MS)} (hf : f_X12_findsPresses_171 l0 l2 l3 l4 l6 l7 μ = some z) (hk : (Sum.elim (fun s : Nat × Int32 × Int32 × Int32 × Int32 × Int32 × MS => WW X D cy b r μ' 10 0 0 28 [(0, .ref (b + s.1)), (2, .int s.2.1), (3, .int s.2.2.1), (4, .int s.2.2.2.1), (5, .int s.2.2.2.2.1), (6, .int s.2.2.2.2.2.1)] [] s.2.2.2.2.2.2) (fun z : MS => r = none ∧ μ' = z)) z) : WW X D cy b r μ' 10 0 0 171 [(0, .ref (b + l0)), (2, .int l2), (3, .int l3), (4, .int l4), (6, .int l6), (7, .int l7)] [] μ := by
  unfold f_X12_findsPresses_171 at hf
  refine r_iload hB 5 rfl (by decide +kernel : decode cX12_findsPresses 171 = .ok (.iload 7, 2)) ?_
  refine r_if_eq hB (tgt := 269) (by decide +kernel : decode cX12_findsPresses 173 = .ok (.ifCond .eq 96, 3)) (by decide) hf (fun _ hf => ?_) (fun _ hf => ?_)
  · exact WW.sub [0, 1, 2, 3, 4] rfl (t_X12_findsPresses_269 hB hf hk)
  · refine r_aload_n hB 0 rfl (by decide +kernel : decode cX12_findsPresses 176 = .ok (.aload_n 0, 1)) rfl ?_
    refine r_gI hB cf12 28 (by decide) (own := "PulseRemoteModel") rfl (Or.inl k_1143) (by decide +kernel) (by decide +kernel : decode cX12_findsPresses 177 = .ok (.getfield 259, 3)) hf (fun x177 hf => ?_)
    refine r_if_ne hB (tgt := 269) (by decide +kernel : decode cX12_findsPresses 180 = .ok (.ifCond .ne 89, 3)) (by decide) hf (fun _ hf => ?_) (fun _ hf => ?_)
    · refine r_aload_n hB 0 rfl (by decide +kernel : decode cX12_findsPresses 183 = .ok (.aload_n 0, 1)) rfl ?_
      refine r_gI hB cf12 26 (by decide) (own := "PulseRemoteModel") rfl (Or.inl k_1141) (by decide +kernel) (by decide +kernel : decode cX12_findsPresses 184 = .ok (.getfield 265, 3)) hf (fun x184 hf => ?_)
      refine r_istore_n hB (by decide +kernel : decode cX12_findsPresses 187 = .ok (.istore_n 3, 1)) rfl (by decide) rfl ?_
      refine ww_lv (lv' := [(3, .int x184), (0, .ref (b + l0)), (2, .int l2), (4, .int l4), (6, .int l6), (7, .int l7)]) rfl ?_
      refine r_aload_n hB 1 rfl (by decide +kernel : decode cX12_findsPresses 188 = .ok (.aload_n 0, 1)) rfl ?_
      refine r_gI hB cf12 27 (by decide) (own := "PulseRemoteModel") rfl (Or.inl k_1142) (by decide +kernel) (by decide +kernel : decode cX12_findsPresses 189 = .ok (.getfield 268, 3)) hf (fun x189 hf => ?_)
      refine r_istore hB (by decide +kernel : decode cX12_findsPresses 192 = .ok (.istore 4, 2)) (by decide) rfl ?_
      refine ww_lv (lv' := [(4, .int x189), (3, .int x184), (0, .ref (b + l0)), (2, .int l2), (6, .int l6), (7, .int l7)]) rfl ?_
      refine r_aload_n hB 2 rfl (by decide +kernel : decode cX12_findsPresses 194 = .ok (.aload_n 0, 1)) rfl ?_
      refine r_gI hB cf12 30 (by decide) (own := "PulseRemoteModel") rfl (Or.inl k_1145) (by decide +kernel) (by decide +kernel : decode cX12_findsPresses 195 = .ok (.getfield 285, 3)) hf (fun x195 hf => ?_)
      refine r_bipush hB (v := 30) (by decide +kernel : decode cX12_findsPresses 198 = .ok (.bipush 30, 2)) (by decide +kernel) ?_
      refine r_icmp_ge hB (tgt := 210) (by decide +kernel : decode cX12_findsPresses 200 = .ok (.if_icmp .ge 10, 3)) (by decide) hf (fun _ hf => ?_) (fun _ hf => ?_)
      · refine r_iconst hB (v := (-1)) (by decide +kernel : decode cX12_findsPresses 210 = .ok (.iconst (-1), 1)) (by decide +kernel) ?_
        exact WW.sub [2, 1, 0, 4] rfl (t_X12_findsPresses_211 hB hf hk)
      · refine r_aload_n hB 2 rfl (by decide +kernel : decode cX12_findsPresses 203 = .ok (.aload_n 0, 1)) rfl ?_
        refine r_gI hB cf12 30 (by decide) (own := "PulseRemoteModel") rfl (Or.inl k_1145) (by decide +kernel) (by decide +kernel : decode cX12_findsPresses 204 = .ok (.getfield 285, 3)) hf (fun x204 hf => ?_)
        refine r_goto hB (tgt := 211) (by decide +kernel : decode cX12_findsPresses 207 = .ok (.goto 4, 3)) (by decide) ?_
        exact WW.sub [2, 1, 0, 4] rfl (t_X12_findsPresses_211 hB hf hk)
    · exact WW.sub [0, 1, 2, 3, 4] rfl (t_X12_findsPresses_269 hB hf hk)
set_option maxHeartbeats 4000000 in
set_option maxRecDepth 100000 in
theorem t_X12_findsPresses_133 {X : BX} {D : va_G} {cy : Nat → ClassId} {b : Nat} {r : Option Value} {μ' : MS} (hB : BB X D cy b yX12_findsPresses cX12_findsPresses 10 none rmX12_findsPresses) {l0 : Nat} {l2 : Int32} {l3 : Int32} {l4 : Int32} {l5 : Int32} {l6 : Int32} {l7 : Int32} {l8 : Int32} {s0 : Int32} {μ : MS} {z : ((Nat × Int32 × Int32 × Int32 × Int32 × Int32 × MS) ⊕ MS)} (hf : f_X12_findsPresses_133 l0 l2 l3 l4 l5 l6 l7 l8 s0 μ = some z) (hk : (Sum.elim (fun s : Nat × Int32 × Int32 × Int32 × Int32 × Int32 × MS => WW X D cy b r μ' 10 0 0 28 [(0, .ref (b + s.1)), (2, .int s.2.1), (3, .int s.2.2.1), (4, .int s.2.2.2.1), (5, .int s.2.2.2.2.1), (6, .int s.2.2.2.2.2.1)] [] s.2.2.2.2.2.2) (fun z : MS => r = none ∧ μ' = z)) z) : WW X D cy b r μ' 10 0 0 133 [(0, .ref (b + l0)), (2, .int l2), (3, .int l3), (4, .int l4), (5, .int l5), (6, .int l6), (7, .int l7), (8, .int l8)] [.int s0] μ := by
  unfold f_X12_findsPresses_133 at hf
  refine r_istore hB (by decide +kernel : decode cX12_findsPresses 133 = .ok (.istore 9, 2)) (by decide) rfl ?_
  refine ww_lv (lv' := [(9, .int s0), (0, .ref (b + l0)), (2, .int l2), (3, .int l3), (4, .int l4), (5, .int l5), (6, .int l6), (7, .int l7), (8, .int l8)]) rfl ?_
  refine r_iload hB 5 rfl (by decide +kernel : decode cX12_findsPresses 135 = .ok (.iload 5, 2)) ?_
  refine r_if_eq hB (tgt := 171) (by decide +kernel : decode cX12_findsPresses 137 = .ok (.ifCond .eq 34, 3)) (by decide) hf (fun _ hf => ?_) (fun _ hf => ?_)
  · exact WW.sub [1, 2, 3, 4, 6, 7] rfl (t_X12_findsPresses_171 hB hf hk)
  · refine r_iload hB 8 rfl (by decide +kernel : decode cX12_findsPresses 140 = .ok (.iload 8, 2)) ?_
    refine r_if_eq hB (tgt := 171) (by decide +kernel : decode cX12_findsPresses 142 = .ok (.ifCond .eq 29, 3)) (by decide) hf (fun _ hf => ?_) (fun _ hf => ?_)
    · exact WW.sub [1, 2, 3, 4, 6, 7] rfl (t_X12_findsPresses_171 hB hf hk)
    · refine r_iload hB 0 rfl (by decide +kernel : decode cX12_findsPresses 145 = .ok (.iload 9, 2)) ?_
      refine r_if_eq hB (tgt := 171) (by decide +kernel : decode cX12_findsPresses 147 = .ok (.ifCond .eq 24, 3)) (by decide) hf (fun _ hf => ?_) (fun _ hf => ?_)
      · exact WW.sub [1, 2, 3, 4, 6, 7] rfl (t_X12_findsPresses_171 hB hf hk)
      · refine r_iload_n hB 2 rfl (by decide +kernel : decode cX12_findsPresses 150 = .ok (.iload_n 2, 1)) rfl ?_
        refine r_if_lt hB (tgt := 282) (by decide +kernel : decode cX12_findsPresses 151 = .ok (.ifCond .lt 131, 3)) (by decide) hf (fun _ hf => ?_) (fun _ hf => ?_)
        · exact WW.sub [1, 2, 3, 4, 5, 6] rfl (t_X12_findsPresses_282 hB hf hk)
        · refine r_aload_n hB 1 rfl (by decide +kernel : decode cX12_findsPresses 154 = .ok (.aload_n 0, 1)) rfl ?_
          refine r_gR hB cf12 29 (by decide) (own := "PulseRemoteModel") rfl (Or.inl k_1144) (by decide +kernel) (by decide +kernel : decode cX12_findsPresses 155 = .ok (.getfield 54, 3)) hf (fun x155 hf => ?_)
          refine r_iconst hB (v := 3) (by decide +kernel : decode cX12_findsPresses 158 = .ok (.iconst 3, 1)) (by decide +kernel) ?_
          refine r_iload_n hB 2 rfl (by decide +kernel : decode cX12_findsPresses 159 = .ok (.iload_n 2, 1)) rfl ?_
          refine r_imul hB (by decide +kernel : decode cX12_findsPresses 160 = .ok (.imul, 1)) ?_
          refine r_iconst hB (v := 2) (by decide +kernel : decode cX12_findsPresses 161 = .ok (.iconst 2, 1)) (by decide +kernel) ?_
          refine r_iadd hB (by decide +kernel : decode cX12_findsPresses 162 = .ok (.iadd, 1)) ?_
          refine r_dup2 hB (by decide +kernel : decode cX12_findsPresses 163 = .ok (.dup2, 1)) rfl rfl ?_
          refine r_iald hB (by decide +kernel : decode cX12_findsPresses 164 = .ok (.iaload, 1)) hf (fun x164 hf => ?_)
          refine r_iconst hB (v := 1) (by decide +kernel : decode cX12_findsPresses 165 = .ok (.iconst 1, 1)) (by decide +kernel) ?_
          refine r_iadd hB (by decide +kernel : decode cX12_findsPresses 166 = .ok (.iadd, 1)) ?_
          refine r_iast hB (by decide +kernel : decode cX12_findsPresses 167 = .ok (.iastore, 1)) hf (fun m167 hf => ?_)
          refine r_goto hB (tgt := 282) (by decide +kernel : decode cX12_findsPresses 168 = .ok (.goto 114, 3)) (by decide) ?_
          exact WW.sub [1, 2, 3, 4, 5, 6] rfl (t_X12_findsPresses_282 hB hf hk)
set_option maxHeartbeats 4000000 in
set_option maxRecDepth 100000 in
theorem t_X12_findsPresses_132 {X : BX} {D : va_G} {cy : Nat → ClassId} {b : Nat} {r : Option Value} {μ' : MS} (hB : BB X D cy b yX12_findsPresses cX12_findsPresses 10 none rmX12_findsPresses) {l0 : Nat} {l2 : Int32} {l3 : Int32} {l4 : Int32} {l5 : Int32} {l6 : Int32} {l7 : Int32} {l8 : Int32} {μ : MS} {z : ((Nat × Int32 × Int32 × Int32 × Int32 × Int32 × MS) ⊕ MS)} (hf : f_X12_findsPresses_132 l0 l2 l3 l4 l5 l6 l7 l8 μ = some z) (hk : (Sum.elim (fun s : Nat × Int32 × Int32 × Int32 × Int32 × Int32 × MS => WW X D cy b r μ' 10 0 0 28 [(0, .ref (b + s.1)), (2, .int s.2.1), (3, .int s.2.2.1), (4, .int s.2.2.2.1), (5, .int s.2.2.2.2.1), (6, .int s.2.2.2.2.2.1)] [] s.2.2.2.2.2.2) (fun z : MS => r = none ∧ μ' = z)) z) : WW X D cy b r μ' 10 0 0 132 [(0, .ref (b + l0)), (2, .int l2), (3, .int l3), (4, .int l4), (5, .int l5), (6, .int l6), (7, .int l7), (8, .int l8)] [] μ := by
  unfold f_X12_findsPresses_132 at hf
  refine r_iconst hB (v := 0) (by decide +kernel : decode cX12_findsPresses 132 = .ok (.iconst 0, 1)) (by decide +kernel) ?_
  exact WW.sub [0, 1, 2, 3, 4, 5, 6, 7] rfl (t_X12_findsPresses_133 hB hf hk)
set_option maxHeartbeats 4000000 in
set_option maxRecDepth 100000 in
theorem t_X12_findsPresses_128 {X : BX} {D : va_G} {cy : Nat → ClassId} {b : Nat} {r : Option Value} {μ' : MS} (hB : BB X D cy b yX12_findsPresses cX12_findsPresses 10 none rmX12_findsPresses) {l0 : Nat} {l2 : Int32} {l3 : Int32} {l4 : Int32} {l5 : Int32} {l6 : Int32} {l7 : Int32} {l8 : Int32} {μ : MS} {z : ((Nat × Int32 × Int32 × Int32 × Int32 × Int32 × MS) ⊕ MS)} (hf : f_X12_findsPresses_128 l0 l2 l3 l4 l5 l6 l7 l8 μ = some z) (hk : (Sum.elim (fun s : Nat × Int32 × Int32 × Int32 × Int32 × Int32 × MS => WW X D cy b r μ' 10 0 0 28 [(0, .ref (b + s.1)), (2, .int s.2.1), (3, .int s.2.2.1), (4, .int s.2.2.2.1), (5, .int s.2.2.2.2.1), (6, .int s.2.2.2.2.2.1)] [] s.2.2.2.2.2.2) (fun z : MS => r = none ∧ μ' = z)) z) : WW X D cy b r μ' 10 0 0 128 [(0, .ref (b + l0)), (2, .int l2), (3, .int l3), (4, .int l4), (5, .int l5), (6, .int l6), (7, .int l7), (8, .int l8)] [] μ := by
  unfold f_X12_findsPresses_128 at hf
  refine r_iconst hB (v := 1) (by decide +kernel : decode cX12_findsPresses 128 = .ok (.iconst 1, 1)) (by decide +kernel) ?_
  refine r_goto hB (tgt := 133) (by decide +kernel : decode cX12_findsPresses 129 = .ok (.goto 4, 3)) (by decide) ?_
  exact WW.sub [0, 1, 2, 3, 4, 5, 6, 7] rfl (t_X12_findsPresses_133 hB hf hk)
set_option maxHeartbeats 4000000 in
set_option maxRecDepth 100000 in
theorem t_X12_findsPresses_78 {X : BX} {D : va_G} {cy : Nat → ClassId} {b : Nat} {r : Option Value} {μ' : MS} (hB : BB X D cy b yX12_findsPresses cX12_findsPresses 10 none rmX12_findsPresses) {l0 : Nat} {l2 : Int32} {l3 : Int32} {l4 : Int32} {l5 : Int32} {l6 : Int32} {l7 : Int32} {s0 : Int32} {μ : MS} {z : ((Nat × Int32 × Int32 × Int32 × Int32 × Int32 × MS) ⊕ MS)} (hf : f_X12_findsPresses_78 l0 l2 l3 l4 l5 l6 l7 s0 μ = some z) (hk : (Sum.elim (fun s : Nat × Int32 × Int32 × Int32 × Int32 × Int32 × MS => WW X D cy b r μ' 10 0 0 28 [(0, .ref (b + s.1)), (2, .int s.2.1), (3, .int s.2.2.1), (4, .int s.2.2.2.1), (5, .int s.2.2.2.2.1), (6, .int s.2.2.2.2.2.1)] [] s.2.2.2.2.2.2) (fun z : MS => r = none ∧ μ' = z)) z) : WW X D cy b r μ' 10 0 0 78 [(0, .ref (b + l0)), (2, .int l2), (3, .int l3), (4, .int l4), (5, .int l5), (6, .int l6), (7, .int l7)] [.int s0] μ := by
  unfold f_X12_findsPresses_78 at hf
  refine r_istore hB (by decide +kernel : decode cX12_findsPresses 78 = .ok (.istore 8, 2)) (by decide) rfl ?_
  refine ww_lv (lv' := [(8, .int s0), (0, .ref (b + l0)), (2, .int l2), (3, .int l3), (4, .int l4), (5, .int l5), (6, .int l6), (7, .int l7)]) rfl ?_
  refine r_iload hB 7 rfl (by decide +kernel : decode cX12_findsPresses 80 = .ok (.iload 7, 2)) ?_
  refine r_if_eq hB (tgt := 132) (by decide +kernel : decode cX12_findsPresses 82 = .ok (.ifCond .eq 50, 3)) (by decide) hf (fun _ hf => ?_) (fun _ hf => ?_)
  · exact WW.sub [1, 2, 3, 4, 5, 6, 7, 0] rfl (t_X12_findsPresses_132 hB hf hk)
  · refine r_aload_n hB 1 rfl (by decide +kernel : decode cX12_findsPresses 85 = .ok (.aload_n 0, 1)) rfl ?_
    refine r_gI hB cf12 26 (by decide) (own := "PulseRemoteModel") rfl (Or.inl k_1141) (by decide +kernel) (by decide +kernel : decode cX12_findsPresses 86 = .ok (.getfield 265, 3)) hf (fun x86 hf => ?_)
    refine r_iload_n hB 3 rfl (by decide +kernel : decode cX12_findsPresses 89 = .ok (.iload_n 3, 1)) rfl ?_
    refine r_icmp_ne hB (tgt := 132) (by decide +kernel : decode cX12_findsPresses 90 = .ok (.if_icmp .ne 42, 3)) (by decide) hf (fun _ hf => ?_) (fun _ hf => ?_)
    · refine r_aload_n hB 1 rfl (by decide +kernel : decode cX12_findsPresses 93 = .ok (.aload_n 0, 1)) rfl ?_
      refine r_gI hB cf12 28 (by decide) (own := "PulseRemoteModel") rfl (Or.inl k_1143) (by decide +kernel) (by decide +kernel : decode cX12_findsPresses 94 = .ok (.getfield 259, 3)) hf (fun x94 hf => ?_)
      refine r_if_ne hB (tgt := 128) (by decide +kernel : decode cX12_findsPresses 97 = .ok (.ifCond .ne 31, 3)) (by decide) hf (fun _ hf => ?_) (fun _ hf => ?_)
      · refine r_aload_n hB 1 rfl (by decide +kernel : decode cX12_findsPresses 100 = .ok (.aload_n 0, 1)) rfl ?_
        refine r_gI hB cf12 27 (by decide) (own := "PulseRemoteModel") rfl (Or.inl k_1142) (by decide +kernel) (by decide +kernel : decode cX12_findsPresses 101 = .ok (.getfield 268, 3)) hf (fun x101 hf => ?_)
        refine r_iload hB 4 rfl (by decide +kernel : decode cX12_findsPresses 104 = .ok (.iload 4, 2)) ?_
        refine r_icmp_ne hB (tgt := 132) (by decide +kernel : decode cX12_findsPresses 106 = .ok (.if_icmp .ne 26, 3)) (by decide) hf (fun _ hf => ?_) (fun _ hf => ?_)
        · refine r_aload_n hB 1 rfl (by decide +kernel : decode cX12_findsPresses 109 = .ok (.aload_n 0, 1)) rfl ?_
          refine r_gR hB cf12 0 (by decide) (own := "PulseRemoteModel") rfl (Or.inl k_1115) (by decide +kernel) (by decide +kernel : decode cX12_findsPresses 110 = .ok (.getfield 7, 3)) hf (fun x110 hf => ?_)
          refine r_aload_n hB 1 rfl (by decide +kernel : decode cX12_findsPresses 113 = .ok (.aload_n 0, 1)) rfl ?_
          refine r_gI hB cf12 26 (by decide) (own := "PulseRemoteModel") rfl (Or.inl k_1141) (by decide +kernel) (by decide +kernel : decode cX12_findsPresses 114 = .ok (.getfield 265, 3)) hf (fun x114 hf => ?_)
          refine r_cSi hB [.int x114] [.ref (b + x110)] (own := "PulseRemoteModel") rfl cmX12_at smX12_at (Or.inl ⟨rfl, k_1244⟩) (by decide) rfl rfl rfl (Nat.le_of_ble_eq_true rfl) (by decide +kernel : decode cX12_findsPresses 117 = .ok (.invokestatic 72, 3)) (fun z hz => m_X12_at _ _ _ _ hz) rfl hf (fun z117 hf => ?_)
          refine r_bipush hB (v := 8) (by decide +kernel : decode cX12_findsPresses 120 = .ok (.bipush 8, 2)) (by decide +kernel) ?_
          refine r_iadd hB (by decide +kernel : decode cX12_findsPresses 122 = .ok (.iadd, 1)) ?_
          refine r_iald hB (by decide +kernel : decode cX12_findsPresses 123 = .ok (.iaload, 1)) hf (fun x123 hf => ?_)
          refine r_iconst hB (v := 1) (by decide +kernel : decode cX12_findsPresses 124 = .ok (.iconst 1, 1)) (by decide +kernel) ?_
          refine r_icmp_eq hB (tgt := 132) (by decide +kernel : decode cX12_findsPresses 125 = .ok (.if_icmp .eq 7, 3)) (by decide) hf (fun _ hf => ?_) (fun _ hf => ?_)
          · exact WW.sub [1, 2, 3, 4, 5, 6, 7, 0] rfl (t_X12_findsPresses_132 hB hf hk)
          · exact WW.sub [1, 2, 3, 4, 5, 6, 7, 0] rfl (t_X12_findsPresses_128 hB hf hk)
        · exact WW.sub [1, 2, 3, 4, 5, 6, 7, 0] rfl (t_X12_findsPresses_132 hB hf hk)
      · exact WW.sub [1, 2, 3, 4, 5, 6, 7, 0] rfl (t_X12_findsPresses_128 hB hf hk)
    · exact WW.sub [1, 2, 3, 4, 5, 6, 7, 0] rfl (t_X12_findsPresses_132 hB hf hk)
set_option maxHeartbeats 4000000 in
set_option maxRecDepth 100000 in
theorem t_X12_findsPresses_77 {X : BX} {D : va_G} {cy : Nat → ClassId} {b : Nat} {r : Option Value} {μ' : MS} (hB : BB X D cy b yX12_findsPresses cX12_findsPresses 10 none rmX12_findsPresses) {l0 : Nat} {l2 : Int32} {l3 : Int32} {l4 : Int32} {l5 : Int32} {l6 : Int32} {l7 : Int32} {μ : MS} {z : ((Nat × Int32 × Int32 × Int32 × Int32 × Int32 × MS) ⊕ MS)} (hf : f_X12_findsPresses_77 l0 l2 l3 l4 l5 l6 l7 μ = some z) (hk : (Sum.elim (fun s : Nat × Int32 × Int32 × Int32 × Int32 × Int32 × MS => WW X D cy b r μ' 10 0 0 28 [(0, .ref (b + s.1)), (2, .int s.2.1), (3, .int s.2.2.1), (4, .int s.2.2.2.1), (5, .int s.2.2.2.2.1), (6, .int s.2.2.2.2.2.1)] [] s.2.2.2.2.2.2) (fun z : MS => r = none ∧ μ' = z)) z) : WW X D cy b r μ' 10 0 0 77 [(0, .ref (b + l0)), (2, .int l2), (3, .int l3), (4, .int l4), (5, .int l5), (6, .int l6), (7, .int l7)] [] μ := by
  unfold f_X12_findsPresses_77 at hf
  refine r_iconst hB (v := 0) (by decide +kernel : decode cX12_findsPresses 77 = .ok (.iconst 0, 1)) (by decide +kernel) ?_
  exact WW.sub [0, 1, 2, 3, 4, 5, 6] rfl (t_X12_findsPresses_78 hB hf hk)
set_option maxHeartbeats 4000000 in
set_option maxRecDepth 100000 in
theorem t_X12_findsPresses_28_b {X : BX} {D : va_G} {cy : Nat → ClassId} {b : Nat} {r : Option Value} {μ' : MS} (hB : BB X D cy b yX12_findsPresses cX12_findsPresses 10 none rmX12_findsPresses) {l0 : Nat} {l2 : Int32} {l3 : Int32} {l4 : Int32} {l5 : Int32} {l6 : Int32} {μ : MS} {z : ((Nat × Int32 × Int32 × Int32 × Int32 × Int32 × MS) ⊕ MS)} (hf : f_X12_findsPresses_28_b l0 l2 l3 l4 l5 l6 μ = some z) (hk : (Sum.elim (fun s : Nat × Int32 × Int32 × Int32 × Int32 × Int32 × MS => WW X D cy b r μ' 10 0 0 28 [(0, .ref (b + s.1)), (2, .int s.2.1), (3, .int s.2.2.1), (4, .int s.2.2.2.1), (5, .int s.2.2.2.2.1), (6, .int s.2.2.2.2.2.1)] [] s.2.2.2.2.2.2) (fun z : MS => r = none ∧ μ' = z)) z) : WW X D cy b r μ' 10 0 0 28 [(0, .ref (b + l0)), (2, .int l2), (3, .int l3), (4, .int l4), (5, .int l5), (6, .int l6)] [] μ := by
  unfold f_X12_findsPresses_28_b at hf
  refine r_iload hB 5 rfl (by decide +kernel : decode cX12_findsPresses 28 = .ok (.iload 6, 2)) ?_
  refine r_aload_n hB 0 rfl (by decide +kernel : decode cX12_findsPresses 30 = .ok (.aload_n 0, 1)) rfl ?_
  refine r_gI hB cf12 21 (by decide) (own := "PulseRemoteModel") rfl (Or.inl k_1136) (by decide +kernel) (by decide +kernel : decode cX12_findsPresses 31 = .ok (.getfield 224, 3)) hf (fun x31 hf => ?_)
  refine r_icmp_ge hB (tgt := 288) (by decide +kernel : decode cX12_findsPresses 34 = .ok (.if_icmp .ge 254, 3)) (by decide) hf (fun _ hf => ?_) (fun _ hf => ?_)
  · obtain ⟨_, hx0, rfl⟩ := xr_inv hf
    exact WW.sub [] rfl (t_X12_findsPresses_288 hB hx0 hk)
  · refine r_aload_n hB 0 rfl (by decide +kernel : decode cX12_findsPresses 37 = .ok (.aload_n 0, 1)) rfl ?_
    refine r_iload hB 5 rfl (by decide +kernel : decode cX12_findsPresses 38 = .ok (.iload 6, 2)) ?_
    refine r_cVi hB [.int l6] [] cf12 (own := "PulseRemoteModel") rfl cmX12_decodes imX12_decodes (Or.inl k_1452) (by decide) rfl rfl rfl (Nat.le_of_ble_eq_true rfl) (by decide +kernel : decode cX12_findsPresses 40 = .ok (.invokevirtual 280, 3)) (fun z hz => m_X12_decodes _ _ _ _ hz) rfl hf (fun z40 hf => ?_)
    refine r_istore hB (by decide +kernel : decode cX12_findsPresses 43 = .ok (.istore 7, 2)) (by decide) rfl ?_
    refine ww_lv (lv' := [(7, .int z40.1), (0, .ref (b + l0)), (2, .int l2), (3, .int l3), (4, .int l4), (5, .int l5), (6, .int l6)]) rfl ?_
    refine r_iload hB 6 rfl (by decide +kernel : decode cX12_findsPresses 45 = .ok (.iload 6, 2)) ?_
    refine r_if_le hB (tgt := 77) (by decide +kernel : decode cX12_findsPresses 47 = .ok (.ifCond .le 30, 3)) (by decide) hf (fun _ hf => ?_) (fun _ hf => ?_)
    · exact WW.sub [1, 2, 3, 4, 5, 6, 0] rfl (t_X12_findsPresses_77 hB hf hk)
    · refine r_aload_n hB 1 rfl (by decide +kernel : decode cX12_findsPresses 50 = .ok (.aload_n 0, 1)) rfl ?_
      refine r_gR hB cf12 13 (by decide) (own := "PulseRemoteModel") rfl (Or.inl k_1128) (by decide +kernel) (by decide +kernel : decode cX12_findsPresses 51 = .ok (.getfield 26, 3)) hf (fun x51 hf => ?_)
      refine r_aload_n hB 1 rfl (by decide +kernel : decode cX12_findsPresses 54 = .ok (.aload_n 0, 1)) rfl ?_
      refine r_gR hB cf12 19 (by decide) (own := "PulseRemoteModel") rfl (Or.inl k_1134) (by decide +kernel) (by decide +kernel : decode cX12_findsPresses 55 = .ok (.getfield 38, 3)) hf (fun x55 hf => ?_)
      refine r_iload hB 6 rfl (by decide +kernel : decode cX12_findsPresses 58 = .ok (.iload 6, 2)) ?_
      refine r_iald hB (by decide +kernel : decode cX12_findsPresses 60 = .ok (.iaload, 1)) hf (fun x60 hf => ?_)
      refine r_iconst hB (v := 1) (by decide +kernel : decode cX12_findsPresses 61 = .ok (.iconst 1, 1)) (by decide +kernel) ?_
      refine r_isub hB (by decide +kernel : decode cX12_findsPresses 62 = .ok (.isub, 1)) ?_
      refine r_iald hB (by decide +kernel : decode cX12_findsPresses 63 = .ok (.iaload, 1)) hf (fun x63 hf => ?_)
      refine r_aload_n hB 1 rfl (by decide +kernel : decode cX12_findsPresses 64 = .ok (.aload_n 0, 1)) rfl ?_
      refine r_gR hB cf12 0 (by decide) (own := "PulseRemoteModel") rfl (Or.inl k_1115) (by decide +kernel) (by decide +kernel : decode cX12_findsPresses 65 = .ok (.getfield 7, 3)) hf (fun x65 hf => ?_)
      refine r_iconst hB (v := 1) (by decide +kernel : decode cX12_findsPresses 68 = .ok (.iconst 1, 1)) (by decide +kernel) ?_
      refine r_iald hB (by decide +kernel : decode cX12_findsPresses 69 = .ok (.iaload, 1)) hf (fun x69 hf => ?_)
      refine r_icmp_gt hB (tgt := 77) (by decide +kernel : decode cX12_findsPresses 70 = .ok (.if_icmp .gt 7, 3)) (by decide) hf (fun _ hf => ?_) (fun _ hf => ?_)
      · exact WW.sub [1, 2, 3, 4, 5, 6, 0] rfl (t_X12_findsPresses_77 hB hf hk)
      · refine r_iconst hB (v := 1) (by decide +kernel : decode cX12_findsPresses 73 = .ok (.iconst 1, 1)) (by decide +kernel) ?_
        refine r_goto hB (tgt := 78) (by decide +kernel : decode cX12_findsPresses 74 = .ok (.goto 4, 3)) (by decide) ?_
        exact WW.sub [1, 2, 3, 4, 5, 6, 0] rfl (t_X12_findsPresses_78 hB hf hk)
set_option maxHeartbeats 4000000 in
set_option maxRecDepth 100000 in
theorem t_X12_findsPresses_28 {X : BX} {D : va_G} {cy : Nat → ClassId} {b : Nat} {r : Option Value} {μ' : MS} (hB : BB X D cy b yX12_findsPresses cX12_findsPresses 10 none rmX12_findsPresses) {l0 : Nat} {l2 : Int32} {l3 : Int32} {l4 : Int32} {l5 : Int32} {l6 : Int32} {μ : MS} {z : MS} (hf : f_X12_findsPresses_28 l0 l2 l3 l4 l5 l6 μ = some z) (hk : (fun z : MS => r = none ∧ μ' = z) z) : WW X D cy b r μ' 10 0 0 28 [(0, .ref (b + l0)), (2, .int l2), (3, .int l3), (4, .int l4), (5, .int l5), (6, .int l6)] [] μ :=
  lp_ind (P := fun s : Nat × Int32 × Int32 × Int32 × Int32 × Int32 × MS => WW X D cy b r μ' 10 0 0 28 [(0, .ref (b + s.1)), (2, .int s.2.1), (3, .int s.2.2.1), (4, .int s.2.2.2.1), (5, .int s.2.2.2.2.1), (6, .int s.2.2.2.2.2.1)] [] s.2.2.2.2.2.2) (Q := (fun z : MS => r = none ∧ μ' = z)) (fun s z hz hk => t_X12_findsPresses_28_b hB hz hk) (l0, l2, l3, l4, l5, l6, μ) z hf hk
set_option maxHeartbeats 4000000 in
set_option maxRecDepth 100000 in
theorem t_X12_findsPresses_0 {X : BX} {D : va_G} {cy : Nat → ClassId} {b : Nat} {r : Option Value} {μ' : MS} (hB : BB X D cy b yX12_findsPresses cX12_findsPresses 10 none rmX12_findsPresses) {l0 : Nat} {l1 : Int32} {μ : MS} {z : MS} (hf : f_X12_findsPresses l0 l1 μ = some z) (hk : (fun z : MS => r = none ∧ μ' = z) z) : WW X D cy b r μ' 10 0 0 0 [(0, .ref (b + l0)), (1, .int l1)] [] μ := by
  unfold f_X12_findsPresses at hf
  refine r_aload_n hB 0 rfl (by decide +kernel : decode cX12_findsPresses 0 = .ok (.aload_n 0, 1)) rfl ?_
  refine r_iload_n hB 1 rfl (by decide +kernel : decode cX12_findsPresses 1 = .ok (.iload_n 1, 1)) rfl ?_
  refine r_cVv hB [.int l1] [] cf12 (own := "PulseRemoteModel") rfl cmX12_opens imX12_opens (Or.inl k_1440) (by decide) rfl rfl rfl (Nat.le_of_ble_eq_true rfl) (by decide +kernel : decode cX12_findsPresses 2 = .ok (.invokevirtual 277, 3)) (fun z hz => m_X12_opens _ _ _ _ hz) rfl hf (fun z2 hf => ?_)
  refine r_aload_n hB 0 rfl (by decide +kernel : decode cX12_findsPresses 5 = .ok (.aload_n 0, 1)) rfl ?_
  refine r_iconst hB (v := 0) (by decide +kernel : decode cX12_findsPresses 6 = .ok (.iconst 0, 1)) (by decide +kernel) ?_
  refine r_pI hB cf12 30 (by decide) (own := "PulseRemoteModel") rfl (Or.inl k_1145) (Or.inl rfl) rfl (by decide +kernel : decode cX12_findsPresses 7 = .ok (.putfield 285, 3)) hf (fun m7 hf => ?_)
  refine r_aload_n hB 0 rfl (by decide +kernel : decode cX12_findsPresses 10 = .ok (.aload_n 0, 1)) rfl ?_
  refine r_iconst hB (v := 0) (by decide +kernel : decode cX12_findsPresses 11 = .ok (.iconst 0, 1)) (by decide +kernel) ?_
  refine r_pI hB cf12 31 (by decide) (own := "PulseRemoteModel") rfl (Or.inl k_1146) (Or.inl rfl) rfl (by decide +kernel : decode cX12_findsPresses 12 = .ok (.putfield 288, 3)) hf (fun m12 hf => ?_)
  refine r_iconst hB (v := (-1)) (by decide +kernel : decode cX12_findsPresses 15 = .ok (.iconst (-1), 1)) (by decide +kernel) ?_
  refine r_istore_n hB (by decide +kernel : decode cX12_findsPresses 16 = .ok (.istore_n 2, 1)) rfl (by decide) rfl ?_
  refine ww_lv (lv' := [(2, .int ((-1))), (0, .ref (b + l0)), (1, .int l1)]) rfl ?_
  refine r_iconst hB (v := (-1)) (by decide +kernel : decode cX12_findsPresses 17 = .ok (.iconst (-1), 1)) (by decide +kernel) ?_
  refine r_istore_n hB (by decide +kernel : decode cX12_findsPresses 18 = .ok (.istore_n 3, 1)) rfl (by decide) rfl ?_
  refine ww_lv (lv' := [(3, .int ((-1))), (2, .int ((-1))), (0, .ref (b + l0)), (1, .int l1)]) rfl ?_
  refine r_iconst hB (v := (-1)) (by decide +kernel : decode cX12_findsPresses 19 = .ok (.iconst (-1), 1)) (by decide +kernel) ?_
  refine r_istore hB (by decide +kernel : decode cX12_findsPresses 20 = .ok (.istore 4, 2)) (by decide) rfl ?_
  refine ww_lv (lv' := [(4, .int ((-1))), (3, .int ((-1))), (2, .int ((-1))), (0, .ref (b + l0)), (1, .int l1)]) rfl ?_
  refine r_iconst hB (v := 0) (by decide +kernel : decode cX12_findsPresses 22 = .ok (.iconst 0, 1)) (by decide +kernel) ?_
  refine r_istore hB (by decide +kernel : decode cX12_findsPresses 23 = .ok (.istore 5, 2)) (by decide) rfl ?_
  refine ww_lv (lv' := [(5, .int 0), (4, .int ((-1))), (3, .int ((-1))), (2, .int ((-1))), (0, .ref (b + l0)), (1, .int l1)]) rfl ?_
  refine r_iconst hB (v := 0) (by decide +kernel : decode cX12_findsPresses 25 = .ok (.iconst 0, 1)) (by decide +kernel) ?_
  refine r_istore hB (by decide +kernel : decode cX12_findsPresses 26 = .ok (.istore 6, 2)) (by decide) rfl ?_
  refine ww_lv (lv' := [(6, .int 0), (5, .int 0), (4, .int ((-1))), (3, .int ((-1))), (2, .int ((-1))), (0, .ref (b + l0)), (1, .int l1)]) rfl ?_
  exact WW.sub [5, 4, 3, 2, 1, 0] rfl (t_X12_findsPresses_28 hB hf hk)
theorem m_X12_findsPresses (l : Launch) (D : va_G) (cy : Nat → ClassId) (b : Nat) {l0 : Nat} {l1 : Int32} {μ : MS} {z : MS} (hf : f_X12_findsPresses l0 l1 μ = some z) : Met l yX12_findsPresses (.code yX12_findsPresses cX12_findsPresses 10 none :: GW) rmX12_findsPresses (Pw D cy b [.ref (b + l0), .int l1] μ) (Qw D cy b (none) (z)) rmX12_findsPresses.cells rmX12_findsPresses.slots (fun q => b ≤ q) :=
  met_of (by decide) (Nat.le_of_ble_eq_true rfl) (fun X hB _ => (t_X12_findsPresses_0 hB hf ⟨rfl, rfl⟩))
-- PulseRemoteModel.pressCount(I)I
set_option maxHeartbeats 4000000 in
set_option maxRecDepth 100000 in
theorem t_X12_pressCount_0 {X : BX} {D : va_G} {cy : Nat → ClassId} {b : Nat} {r : Option Value} {μ' : MS} (hB : BB X D cy b yX12_pressCount cX12_pressCount 2 (some .int) rmX12_pressCount) {l0 : Nat} {l1 : Int32} {μ : MS} {z : (Int32 × MS)} (hf : f_X12_pressCount l0 l1 μ = some z) (hk : (fun z : Int32 × MS => r = some (.int z.1) ∧ μ' = z.2) z) : WW X D cy b r μ' 2 0 0 0 [(0, .ref (b + l0)), (1, .int l1)] [] μ := by
  unfold f_X12_pressCount at hf
  refine r_iload_n hB 1 rfl (by decide +kernel : decode cX12_pressCount 0 = .ok (.iload_n 1, 1)) rfl ?_
  refine r_cSi hB [.int l1] [] (own := "PulseRemoteModel") rfl cmX12_isSlot smX12_isSlot (Or.inl ⟨rfl, k_1367⟩) (by decide) rfl rfl rfl (Nat.le_of_ble_eq_true rfl) (by decide +kernel : decode cX12_pressCount 1 = .ok (.invokestatic 199, 3)) (fun z hz => m_X12_isSlot _ _ _ _ hz) rfl hf (fun z1 hf => ?_)
  refine r_if_ne hB (tgt := 9) (by decide +kernel : decode cX12_pressCount 4 = .ok (.ifCond .ne 5, 3)) (by decide) hf (fun _ hf => ?_) (fun _ hf => ?_)
  · refine r_iconst hB (v := (-1)) (by decide +kernel : decode cX12_pressCount 7 = .ok (.iconst (-1), 1)) (by decide +kernel) ?_
    obtain rfl := Option.some.inj hf
    obtain ⟨rfl, rfl⟩ := hk
    exact r_iret hB (by decide +kernel : decode cX12_pressCount 8 = .ok (.ireturn, 1))
  · refine r_aload_n hB 0 rfl (by decide +kernel : decode cX12_pressCount 9 = .ok (.aload_n 0, 1)) rfl ?_
    refine r_iload_n hB 1 rfl (by decide +kernel : decode cX12_pressCount 10 = .ok (.iload_n 1, 1)) rfl ?_
    refine r_cVv hB [.int l1] [] cf12 (own := "PulseRemoteModel") rfl cmX12_findsPresses imX12_findsPresses (Or.inl k_1505) (by decide) rfl rfl rfl (Nat.le_of_ble_eq_true rfl) (by decide +kernel : decode cX12_pressCount 11 = .ok (.invokevirtual 291, 3)) (fun z hz => m_X12_findsPresses _ _ _ _ hz) rfl hf (fun z11 hf => ?_)
    refine r_aload_n hB 0 rfl (by decide +kernel : decode cX12_pressCount 14 = .ok (.aload_n 0, 1)) rfl ?_
    refine r_gI hB cf12 30 (by decide) (own := "PulseRemoteModel") rfl (Or.inl k_1145) (by decide +kernel) (by decide +kernel : decode cX12_pressCount 15 = .ok (.getfield 285, 3)) hf (fun x15 hf => ?_)
    obtain rfl := Option.some.inj hf
    obtain ⟨rfl, rfl⟩ := hk
    exact r_iret hB (by decide +kernel : decode cX12_pressCount 18 = .ok (.ireturn, 1))
theorem m_X12_pressCount (l : Launch) (D : va_G) (cy : Nat → ClassId) (b : Nat) {l0 : Nat} {l1 : Int32} {μ : MS} {z : Int32 × MS} (hf : f_X12_pressCount l0 l1 μ = some z) : Met l yX12_pressCount (.code yX12_pressCount cX12_pressCount 2 (some .int) :: GW) rmX12_pressCount (Pw D cy b [.ref (b + l0), .int l1] μ) (Qw D cy b (some (.int z.1)) (z.2)) rmX12_pressCount.cells rmX12_pressCount.slots (fun q => b ≤ q) :=
  met_of (by decide) (Nat.le_of_ble_eq_true rfl) (fun X hB _ => (t_X12_pressCount_0 hB hf ⟨rfl, rfl⟩))
-- PulseRemoteModel.press(III)I
set_option maxHeartbeats 4000000 in
set_option maxRecDepth 100000 in
theorem t_X12_press_0 {X : BX} {D : va_G} {cy : Nat → ClassId} {b : Nat} {r : Option Value} {μ' : MS} (hB : BB X D cy b yX12_press cX12_press 5 (some .int) rmX12_press) {l0 : Nat} {l1 : Int32} {l2 : Int32} {l3 : Int32} {μ : MS} {z : (Int32 × MS)} (hf : f_X12_press l0 l1 l2 l3 μ = some z) (hk : (fun z : Int32 × MS => r = some (.int z.1) ∧ μ' = z.2) z) : WW X D cy b r μ' 5 0 0 0 [(0, .ref (b + l0)), (1, .int l1), (2, .int l2), (3, .int l3)] [] μ := by
  unfold f_X12_press at hf
  refine r_iload_n hB 1 rfl (by decide +kernel : decode cX12_press 0 = .ok (.iload_n 1, 1)) rfl ?_
  refine r_cSi hB [.int l1] [] (own := "PulseRemoteModel") rfl cmX12_isSlot smX12_isSlot (Or.inl ⟨rfl, k_1367⟩) (by decide) rfl rfl rfl (Nat.le_of_ble_eq_true rfl) (by decide +kernel : decode cX12_press 1 = .ok (.invokestatic 199, 3)) (fun z hz => m_X12_isSlot _ _ _ _ hz) rfl hf (fun z1 hf => ?_)
  refine r_if_eq hB (tgt := 20) (by decide +kernel : decode cX12_press 4 = .ok (.ifCond .eq 16, 3)) (by decide) hf (fun _ hf => ?_) (fun _ hf => ?_)
  · refine r_iconst hB (v := (-1)) (by decide +kernel : decode cX12_press 20 = .ok (.iconst (-1), 1)) (by decide +kernel) ?_
    obtain rfl := Option.some.inj hf
    obtain ⟨rfl, rfl⟩ := hk
    exact r_iret hB (by decide +kernel : decode cX12_press 21 = .ok (.ireturn, 1))
  · refine r_iload_n hB 2 rfl (by decide +kernel : decode cX12_press 7 = .ok (.iload_n 2, 1)) rfl ?_
    refine r_if_lt hB (tgt := 20) (by decide +kernel : decode cX12_press 8 = .ok (.ifCond .lt 12, 3)) (by decide) hf (fun _ hf => ?_) (fun _ hf => ?_)
    · refine r_iconst hB (v := (-1)) (by decide +kernel : decode cX12_press 20 = .ok (.iconst (-1), 1)) (by decide +kernel) ?_
      obtain rfl := Option.some.inj hf
      obtain ⟨rfl, rfl⟩ := hk
      exact r_iret hB (by decide +kernel : decode cX12_press 21 = .ok (.ireturn, 1))
    · refine r_iload_n hB 3 rfl (by decide +kernel : decode cX12_press 11 = .ok (.iload_n 3, 1)) rfl ?_
      refine r_iconst hB (v := 0) (by decide +kernel : decode cX12_press 12 = .ok (.iconst 0, 1)) (by decide +kernel) ?_
      refine r_iconst hB (v := 3) (by decide +kernel : decode cX12_press 13 = .ok (.iconst 3, 1)) (by decide +kernel) ?_
      refine r_cSi hB [.int l3, .int 0, .int 3] [] (own := "PulseRemoteModel") rfl cmX12_in smX12_in (Or.inl ⟨rfl, k_1233⟩) (by decide) rfl rfl rfl (Nat.le_of_ble_eq_true rfl) (by decide +kernel : decode cX12_press 14 = .ok (.invokestatic 68, 3)) (fun z hz => m_X12_in _ _ _ _ hz) rfl hf (fun z14 hf => ?_)
      refine r_if_ne hB (tgt := 22) (by decide +kernel : decode cX12_press 17 = .ok (.ifCond .ne 5, 3)) (by decide) hf (fun _ hf => ?_) (fun _ hf => ?_)
      · refine r_iconst hB (v := (-1)) (by decide +kernel : decode cX12_press 20 = .ok (.iconst (-1), 1)) (by decide +kernel) ?_
        obtain rfl := Option.some.inj hf
        obtain ⟨rfl, rfl⟩ := hk
        exact r_iret hB (by decide +kernel : decode cX12_press 21 = .ok (.ireturn, 1))
      · refine r_aload_n hB 0 rfl (by decide +kernel : decode cX12_press 22 = .ok (.aload_n 0, 1)) rfl ?_
        refine r_iload_n hB 1 rfl (by decide +kernel : decode cX12_press 23 = .ok (.iload_n 1, 1)) rfl ?_
        refine r_cVv hB [.int l1] [] cf12 (own := "PulseRemoteModel") rfl cmX12_findsPresses imX12_findsPresses (Or.inl k_1505) (by decide) rfl rfl rfl (Nat.le_of_ble_eq_true rfl) (by decide +kernel : decode cX12_press 24 = .ok (.invokevirtual 291, 3)) (fun z hz => m_X12_findsPresses _ _ _ _ hz) rfl hf (fun z24 hf => ?_)
        refine r_iload_n hB 2 rfl (by decide +kernel : decode cX12_press 27 = .ok (.iload_n 2, 1)) rfl ?_
        refine r_aload_n hB 0 rfl (by decide +kernel : decode cX12_press 28 = .ok (.aload_n 0, 1)) rfl ?_
        refine r_gI hB cf12 30 (by decide) (own := "PulseRemoteModel") rfl (Or.inl k_1145) (by decide +kernel) (by decide +kernel : decode cX12_press 29 = .ok (.getfield 285, 3)) hf (fun x29 hf => ?_)
        refine r_icmp_lt hB (tgt := 38) (by decide +kernel : decode cX12_press 32 = .ok (.if_icmp .lt 6, 3)) (by decide) hf (fun _ hf => ?_) (fun _ hf => ?_)
        · refine r_aload_n hB 0 rfl (by decide +kernel : decode cX12_press 38 = .ok (.aload_n 0, 1)) rfl ?_
          refine r_gR hB cf12 29 (by decide) (own := "PulseRemoteModel") rfl (Or.inl k_1144) (by decide +kernel) (by decide +kernel : decode cX12_press 39 = .ok (.getfield 54, 3)) hf (fun x39 hf => ?_)
          refine r_iconst hB (v := 3) (by decide +kernel : decode cX12_press 42 = .ok (.iconst 3, 1)) (by decide +kernel) ?_
          refine r_iload_n hB 2 rfl (by decide +kernel : decode cX12_press 43 = .ok (.iload_n 2, 1)) rfl ?_
          refine r_imul hB (by decide +kernel : decode cX12_press 44 = .ok (.imul, 1)) ?_
          refine r_iald hB (by decide +kernel : decode cX12_press 45 = .ok (.iaload, 1)) hf (fun x45 hf => ?_)
          refine r_istore hB (by decide +kernel : decode cX12_press 46 = .ok (.istore 4, 2)) (by decide) rfl ?_
          refine ww_lv (lv' := [(4, .int x45), (0, .ref (b + l0)), (1, .int l1), (2, .int l2), (3, .int l3)]) rfl ?_
          refine r_iload_n hB 4 rfl (by decide +kernel : decode cX12_press 48 = .ok (.iload_n 3, 1)) rfl ?_
          refine r_iconst hB (v := 3) (by decide +kernel : decode cX12_press 49 = .ok (.iconst 3, 1)) (by decide +kernel) ?_
          refine r_icmp_ge hB (tgt := 66) (by decide +kernel : decode cX12_press 50 = .ok (.if_icmp .ge 16, 3)) (by decide) hf (fun _ hf => ?_) (fun _ hf => ?_)
          · refine r_aload_n hB 1 rfl (by decide +kernel : decode cX12_press 66 = .ok (.aload_n 0, 1)) rfl ?_
            refine r_iload hB 0 rfl (by decide +kernel : decode cX12_press 67 = .ok (.iload 4, 2)) ?_
            refine r_aload_n hB 1 rfl (by decide +kernel : decode cX12_press 69 = .ok (.aload_n 0, 1)) rfl ?_
            refine r_iload hB 0 rfl (by decide +kernel : decode cX12_press 70 = .ok (.iload 4, 2)) ?_
            refine r_aload_n hB 1 rfl (by decide +kernel : decode cX12_press 72 = .ok (.aload_n 0, 1)) rfl ?_
            refine r_gR hB cf12 29 (by decide) (own := "PulseRemoteModel") rfl (Or.inl k_1144) (by decide +kernel) (by decide +kernel : decode cX12_press 73 = .ok (.getfield 54, 3)) hf (fun x73 hf => ?_)
            refine r_iconst hB (v := 3) (by decide +kernel : decode cX12_press 76 = .ok (.iconst 3, 1)) (by decide +kernel) ?_
            refine r_iload_n hB 3 rfl (by decide +kernel : decode cX12_press 77 = .ok (.iload_n 2, 1)) rfl ?_
            refine r_imul hB (by decide +kernel : decode cX12_press 78 = .ok (.imul, 1)) ?_
            refine r_iconst hB (v := 1) (by decide +kernel : decode cX12_press 79 = .ok (.iconst 1, 1)) (by decide +kernel) ?_
            refine r_iadd hB (by decide +kernel : decode cX12_press 80 = .ok (.iadd, 1)) ?_
            refine r_iald hB (by decide +kernel : decode cX12_press 81 = .ok (.iaload, 1)) hf (fun x81 hf => ?_)
            refine r_cVi hB [.int x45, .int x81] [.int x45, .ref (b + l0)] cf12 (own := "PulseRemoteModel") rfl cmX12_identity imX12_identity (Or.inl k_1281) (by decide) rfl rfl rfl (Nat.le_of_ble_eq_true rfl) (by decide +kernel : decode cX12_press 82 = .ok (.invokevirtual 105, 3)) (fun z hz => m_X12_identity _ _ _ _ hz) rfl hf (fun z82 hf => ?_)
            refine r_cVi hB [.int x45, .int z82.1] [] cf12 (own := "PulseRemoteModel") rfl cmX12_buttonOf imX12_buttonOf (Or.inl k_1285) (by decide) rfl rfl rfl (Nat.le_of_ble_eq_true rfl) (by decide +kernel : decode cX12_press 85 = .ok (.invokevirtual 109, 3)) (fun z hz => m_X12_buttonOf _ _ _ _ hz) rfl hf (fun z85 hf => ?_)
            obtain rfl := Option.some.inj hf
            obtain ⟨rfl, rfl⟩ := hk
            exact r_iret hB (by decide +kernel : decode cX12_press 88 = .ok (.ireturn, 1))
          · refine r_aload_n hB 1 rfl (by decide +kernel : decode cX12_press 53 = .ok (.aload_n 0, 1)) rfl ?_
            refine r_gR hB cf12 29 (by decide) (own := "PulseRemoteModel") rfl (Or.inl k_1144) (by decide +kernel) (by decide +kernel : decode cX12_press 54 = .ok (.getfield 54, 3)) hf (fun x54 hf => ?_)
            refine r_iconst hB (v := 3) (by decide +kernel : decode cX12_press 57 = .ok (.iconst 3, 1)) (by decide +kernel) ?_
            refine r_iload_n hB 3 rfl (by decide +kernel : decode cX12_press 58 = .ok (.iload_n 2, 1)) rfl ?_
            refine r_imul hB (by decide +kernel : decode cX12_press 59 = .ok (.imul, 1)) ?_
            refine r_iload_n hB 4 rfl (by decide +kernel : decode cX12_press 60 = .ok (.iload_n 3, 1)) rfl ?_
            refine r_iadd hB (by decide +kernel : decode cX12_press 61 = .ok (.iadd, 1)) ?_
            refine r_iald hB (by decide +kernel : decode cX12_press 62 = .ok (.iaload, 1)) hf (fun x62 hf => ?_)
            refine r_goto hB (tgt := 88) (by decide +kernel : decode cX12_press 63 = .ok (.goto 25, 3)) (by decide) ?_
            obtain rfl := Option.some.inj hf
            obtain ⟨rfl, rfl⟩ := hk
            exact r_iret hB (by decide +kernel : decode cX12_press 88 = .ok (.ireturn, 1))
        · refine r_bipush hB (v := (-9)) (by decide +kernel : decode cX12_press 35 = .ok (.bipush (-9), 2)) (by decide +kernel) ?_
          obtain rfl := Option.some.inj hf
          obtain ⟨rfl, rfl⟩ := hk
          exact r_iret hB (by decide +kernel : decode cX12_press 37 = .ok (.ireturn, 1))
theorem m_X12_press (l : Launch) (D : va_G) (cy : Nat → ClassId) (b : Nat) {l0 : Nat} {l1 : Int32} {l2 : Int32} {l3 : Int32} {μ : MS} {z : Int32 × MS} (hf : f_X12_press l0 l1 l2 l3 μ = some z) : Met l yX12_press (.code yX12_press cX12_press 5 (some .int) :: GW) rmX12_press (Pw D cy b [.ref (b + l0), .int l1, .int l2, .int l3] μ) (Qw D cy b (some (.int z.1)) (z.2)) rmX12_press.cells rmX12_press.slots (fun q => b ≤ q) :=
  met_of (by decide) (Nat.le_of_ble_eq_true rfl) (fun X hB _ => (t_X12_press_0 hB hf ⟨rfl, rfl⟩))
-- PulseRemoteModel.strayCount(I)I
set_option maxHeartbeats 4000000 in
set_option maxRecDepth 100000 in
theorem t_X12_strayCount_0 {X : BX} {D : va_G} {cy : Nat → ClassId} {b : Nat} {r : Option Value} {μ' : MS} (hB : BB X D cy b yX12_strayCount cX12_strayCount 2 (some .int) rmX12_strayCount) {l0 : Nat} {l1 : Int32} {μ : MS} {z : (Int32 × MS)} (hf : f_X12_strayCount l0 l1 μ = some z) (hk : (fun z : Int32 × MS => r = some (.int z.1) ∧ μ' = z.2) z) : WW X D cy b r μ' 2 0 0 0 [(0, .ref (b + l0)), (1, .int l1)] [] μ := by
  unfold f_X12_strayCount at hf
  refine r_iload_n hB 1 rfl (by decide +kernel : decode cX12_strayCount 0 = .ok (.iload_n 1, 1)) rfl ?_
  refine r_cSi hB [.int l1] [] (own := "PulseRemoteModel") rfl cmX12_isSlot smX12_isSlot (Or.inl ⟨rfl, k_1367⟩) (by decide) rfl rfl rfl (Nat.le_of_ble_eq_true rfl) (by decide +kernel : decode cX12_strayCount 1 = .ok (.invokestatic 199, 3)) (fun z hz => m_X12_isSlot _ _ _ _ hz) rfl hf (fun z1 hf => ?_)
  refine r_if_ne hB (tgt := 9) (by decide +kernel : decode cX12_strayCount 4 = .ok (.ifCond .ne 5, 3)) (by decide) hf (fun _ hf => ?_) (fun _ hf => ?_)
  · refine r_iconst hB (v := (-1)) (by decide +kernel : decode cX12_strayCount 7 = .ok (.iconst (-1), 1)) (by decide +kernel) ?_
    obtain rfl := Option.some.inj hf
    obtain ⟨rfl, rfl⟩ := hk
    exact r_iret hB (by decide +kernel : decode cX12_strayCount 8 = .ok (.ireturn, 1))
  · refine r_aload_n hB 0 rfl (by decide +kernel : decode cX12_strayCount 9 = .ok (.aload_n 0, 1)) rfl ?_
    refine r_iload_n hB 1 rfl (by decide +kernel : decode cX12_strayCount 10 = .ok (.iload_n 1, 1)) rfl ?_
    refine r_cVv hB [.int l1] [] cf12 (own := "PulseRemoteModel") rfl cmX12_findsPresses imX12_findsPresses (Or.inl k_1505) (by decide) rfl rfl rfl (Nat.le_of_ble_eq_true rfl) (by decide +kernel : decode cX12_strayCount 11 = .ok (.invokevirtual 291, 3)) (fun z hz => m_X12_findsPresses _ _ _ _ hz) rfl hf (fun z11 hf => ?_)
    refine r_aload_n hB 0 rfl (by decide +kernel : decode cX12_strayCount 14 = .ok (.aload_n 0, 1)) rfl ?_
    refine r_gI hB cf12 31 (by decide) (own := "PulseRemoteModel") rfl (Or.inl k_1146) (by decide +kernel) (by decide +kernel : decode cX12_strayCount 15 = .ok (.getfield 288, 3)) hf (fun x15 hf => ?_)
    obtain rfl := Option.some.inj hf
    obtain ⟨rfl, rfl⟩ := hk
    exact r_iret hB (by decide +kernel : decode cX12_strayCount 18 = .ok (.ireturn, 1))
theorem m_X12_strayCount (l : Launch) (D : va_G) (cy : Nat → ClassId) (b : Nat) {l0 : Nat} {l1 : Int32} {μ : MS} {z : Int32 × MS} (hf : f_X12_strayCount l0 l1 μ = some z) : Met l yX12_strayCount (.code yX12_strayCount cX12_strayCount 2 (some .int) :: GW) rmX12_strayCount (Pw D cy b [.ref (b + l0), .int l1] μ) (Qw D cy b (some (.int z.1)) (z.2)) rmX12_strayCount.cells rmX12_strayCount.slots (fun q => b ≤ q) :=
  met_of (by decide) (Nat.le_of_ble_eq_true rfl) (fun X hB _ => (t_X12_strayCount_0 hB hf ⟨rfl, rfl⟩))
-- PulseRemoteModel.neededTolerance(I)I
set_option maxHeartbeats 4000000 in
set_option maxRecDepth 100000 in
theorem t_X12_neededTolerance_70 {X : BX} {D : va_G} {cy : Nat → ClassId} {b : Nat} {r : Option Value} {μ' : MS} (hB : BB X D cy b yX12_neededTolerance cX12_neededTolerance 5 (some .int) rmX12_neededTolerance)  {μ : MS} {z : (Int32 × MS)} (hf : f_X12_neededTolerance_70  μ = some z) (hk : (fun z : Int32 × MS => r = some (.int z.1) ∧ μ' = z.2) z) : WW X D cy b r μ' 5 0 0 70 [] [] μ := by
  unfold f_X12_neededTolerance_70 at hf
  refine r_bipush hB (v := (-9)) (by decide +kernel : decode cX12_neededTolerance 70 = .ok (.bipush (-9), 2)) (by decide +kernel) ?_
  obtain rfl := Option.some.inj hf
  obtain ⟨rfl, rfl⟩ := hk
  exact r_iret hB (by decide +kernel : decode cX12_neededTolerance 72 = .ok (.ireturn, 1))
set_option maxHeartbeats 4000000 in
set_option maxRecDepth 100000 in
theorem t_X12_neededTolerance_62 {X : BX} {D : va_G} {cy : Nat → ClassId} {b : Nat} {r : Option Value} {μ' : MS} (hB : BB X D cy b yX12_neededTolerance cX12_neededTolerance 5 (some .int) rmX12_neededTolerance) {l2 : Int32} {μ : MS} {z : (Int32 × MS)} (hf : f_X12_neededTolerance_62 l2 μ = some z) (hk : (fun z : Int32 × MS => r = some (.int z.1) ∧ μ' = z.2) z) : WW X D cy b r μ' 5 0 0 62 [(2, .int l2)] [] μ := by
  unfold f_X12_neededTolerance_62 at hf
  refine r_iload_n hB 0 rfl (by decide +kernel : decode cX12_neededTolerance 62 = .ok (.iload_n 2, 1)) rfl ?_
  obtain rfl := Option.some.inj hf
  obtain ⟨rfl, rfl⟩ := hk
  exact r_iret hB (by decide +kernel : decode cX12_neededTolerance 63 = .ok (.ireturn, 1))
set_option maxHeartbeats 4000000 in
set_option maxRecDepth 100000 in
theorem t_X12_neededTolerance_58 {X : BX} {D : va_G} {cy : Nat → ClassId} {b : Nat} {r : Option Value} {μ' : MS} (hB : BB X D cy b yX12_neededTolerance cX12_neededTolerance 5 (some .int) rmX12_neededTolerance) {l0 : Nat} {l2 : Int32} {l3 : Int32} {μ : MS} {z : ((Nat × Int32 × MS) ⊕ (Int32 × MS))} (hf : f_X12_neededTolerance_58 l0 l2 l3 μ = some z) (hk : (Sum.elim (fun s : Nat × Int32 × MS => WW X D cy b r μ' 5 0 0 16 [(0, .ref (b + s.1)), (2, .int s.2.1)] [] s.2.2) (fun z : Int32 × MS => r = some (.int z.1) ∧ μ' = z.2)) z) : WW X D cy b r μ' 5 0 0 58 [(0, .ref (b + l0)), (2, .int l2), (3, .int l3)] [] μ := by
  unfold f_X12_neededTolerance_58 at hf
  refine r_iload_n hB 2 rfl (by decide +kernel : decode cX12_neededTolerance 58 = .ok (.iload_n 3, 1)) rfl ?_
  refine r_if_eq hB (tgt := 64) (by decide +kernel : decode cX12_neededTolerance 59 = .ok (.ifCond .eq 5, 3)) (by decide) hf (fun _ hf => ?_) (fun _ hf => ?_)
  · refine r_iincB hB 1 rfl (by decide +kernel : decode cX12_neededTolerance 64 = .ok (.iinc 2 1, 3)) (w := 1) (by decide +kernel) (by decide) hf (fun v64 hf => ?_)
    refine ww_lv (lv' := [(2, .int v64), (0, .ref (b + l0)), (3, .int l3)]) rfl ?_
    refine r_goto hB (tgt := 16) (by decide +kernel : decode cX12_neededTolerance 67 = .ok (.goto (-51), 3)) (by decide) ?_
    obtain rfl := Option.some.inj hf
    exact WW.sub [1, 0] rfl hk
  · obtain ⟨_, hx0, rfl⟩ := xr_inv hf
    exact WW.sub [1] rfl (t_X12_neededTolerance_62 hB hx0 hk)
set_option maxHeartbeats 4000000 in
set_option maxRecDepth 100000 in
theorem t_X12_neededTolerance_32_b {X : BX} {D : va_G} {cy : Nat → ClassId} {b : Nat} {r : Option Value} {μ' : MS} (hB : BB X D cy b yX12_neededTolerance cX12_neededTolerance 5 (some .int) rmX12_neededTolerance) {l0 : Nat} {l2 : Int32} {l3 : Int32} {l4 : Int32} {μ : MS} {z : ((Nat × Int32 × Int32 × Int32 × MS) ⊕ ((Nat × Int32 × MS) ⊕ (Int32 × MS)))} (hf : f_X12_neededTolerance_32_b l0 l2 l3 l4 μ = some z) (hk : (Sum.elim (fun s : Nat × Int32 × Int32 × Int32 × MS => WW X D cy b r μ' 5 0 0 32 [(0, .ref (b + s.1)), (2, .int s.2.1), (3, .int s.2.2.1), (4, .int s.2.2.2.1)] [] s.2.2.2.2) (Sum.elim (fun s : Nat × Int32 × MS => WW X D cy b r μ' 5 0 0 16 [(0, .ref (b + s.1)), (2, .int s.2.1)] [] s.2.2) (fun z : Int32 × MS => r = some (.int z.1) ∧ μ' = z.2))) z) : WW X D cy b r μ' 5 0 0 32 [(0, .ref (b + l0)), (2, .int l2), (3, .int l3), (4, .int l4)] [] μ := by
  unfold f_X12_neededTolerance_32_b at hf
  refine r_iload hB 3 rfl (by decide +kernel : decode cX12_neededTolerance 32 = .ok (.iload 4, 2)) ?_
  refine r_aload_n hB 0 rfl (by decide +kernel : decode cX12_neededTolerance 34 = .ok (.aload_n 0, 1)) rfl ?_
  refine r_gI hB cf12 21 (by decide) (own := "PulseRemoteModel") rfl (Or.inl k_1136) (by decide +kernel) (by decide +kernel : decode cX12_neededTolerance 35 = .ok (.getfield 224, 3)) hf (fun x35 hf => ?_)
  refine r_icmp_ge hB (tgt := 58) (by decide +kernel : decode cX12_neededTolerance 38 = .ok (.if_icmp .ge 20, 3)) (by decide) hf (fun _ hf => ?_) (fun _ hf => ?_)
  · obtain ⟨_, hx0, rfl⟩ := xr_inv hf
    exact WW.sub [0, 1, 2] rfl (t_X12_neededTolerance_58 hB hx0 hk)
  · refine r_iload_n hB 2 rfl (by decide +kernel : decode cX12_neededTolerance 41 = .ok (.iload_n 3, 1)) rfl ?_
    refine r_if_eq hB (tgt := 58) (by decide +kernel : decode cX12_neededTolerance 42 = .ok (.ifCond .eq 16, 3)) (by decide) hf (fun _ hf => ?_) (fun _ hf => ?_)
    · obtain ⟨_, hx0, rfl⟩ := xr_inv hf
      exact WW.sub [0, 1, 2] rfl (t_X12_neededTolerance_58 hB hx0 hk)
    · refine r_aload_n hB 0 rfl (by decide +kernel : decode cX12_neededTolerance 45 = .ok (.aload_n 0, 1)) rfl ?_
      refine r_iload hB 3 rfl (by decide +kernel : decode cX12_neededTolerance 46 = .ok (.iload 4, 2)) ?_
      refine r_cVi hB [.int l4] [] cf12 (own := "PulseRemoteModel") rfl cmX12_decodes imX12_decodes (Or.inl k_1452) (by decide) rfl rfl rfl (Nat.le_of_ble_eq_true rfl) (by decide +kernel : decode cX12_neededTolerance 48 = .ok (.invokevirtual 280, 3)) (fun z hz => m_X12_decodes _ _ _ _ hz) rfl hf (fun z48 hf => ?_)
      refine r_istore_n hB (by decide +kernel : decode cX12_neededTolerance 51 = .ok (.istore_n 3, 1)) rfl (by decide) rfl ?_
      refine ww_lv (lv' := [(3, .int z48.1), (0, .ref (b + l0)), (2, .int l2), (4, .int l4)]) rfl ?_
      refine r_iincB hB 3 rfl (by decide +kernel : decode cX12_neededTolerance 52 = .ok (.iinc 4 1, 3)) (w := 1) (by decide +kernel) (by decide) hf (fun v52 hf => ?_)
      refine ww_lv (lv' := [(4, .int v52), (3, .int z48.1), (0, .ref (b + l0)), (2, .int l2)]) rfl ?_
      refine r_goto hB (tgt := 32) (by decide +kernel : decode cX12_neededTolerance 55 = .ok (.goto (-23), 3)) (by decide) ?_
      obtain rfl := Option.some.inj hf
      exact WW.sub [2, 3, 1, 0] rfl hk
set_option maxHeartbeats 4000000 in
set_option maxRecDepth 100000 in
theorem t_X12_neededTolerance_32 {X : BX} {D : va_G} {cy : Nat → ClassId} {b : Nat} {r : Option Value} {μ' : MS} (hB : BB X D cy b yX12_neededTolerance cX12_neededTolerance 5 (some .int) rmX12_neededTolerance) {l0 : Nat} {l2 : Int32} {l3 : Int32} {l4 : Int32} {μ : MS} {z : ((Nat × Int32 × MS) ⊕ (Int32 × MS))} (hf : f_X12_neededTolerance_32 l0 l2 l3 l4 μ = some z) (hk : (Sum.elim (fun s : Nat × Int32 × MS => WW X D cy b r μ' 5 0 0 16 [(0, .ref (b + s.1)), (2, .int s.2.1)] [] s.2.2) (fun z : Int32 × MS => r = some (.int z.1) ∧ μ' = z.2)) z) : WW X D cy b r μ' 5 0 0 32 [(0, .ref (b + l0)), (2, .int l2), (3, .int l3), (4, .int l4)] [] μ :=
  lp_ind (P := fun s : Nat × Int32 × Int32 × Int32 × MS => WW X D cy b r μ' 5 0 0 32 [(0, .ref (b + s.1)), (2, .int s.2.1), (3, .int s.2.2.1), (4, .int s.2.2.2.1)] [] s.2.2.2.2) (Q := (Sum.elim (fun s : Nat × Int32 × MS => WW X D cy b r μ' 5 0 0 16 [(0, .ref (b + s.1)), (2, .int s.2.1)] [] s.2.2) (fun z : Int32 × MS => r = some (.int z.1) ∧ μ' = z.2))) (fun s z hz hk => t_X12_neededTolerance_32_b hB hz hk) (l0, l2, l3, l4, μ) z hf hk
set_option maxHeartbeats 4000000 in
set_option maxRecDepth 100000 in
theorem t_X12_neededTolerance_16_b {X : BX} {D : va_G} {cy : Nat → ClassId} {b : Nat} {r : Option Value} {μ' : MS} (hB : BB X D cy b yX12_neededTolerance cX12_neededTolerance 5 (some .int) rmX12_neededTolerance) {l0 : Nat} {l2 : Int32} {μ : MS} {z : ((Nat × Int32 × MS) ⊕ (Int32 × MS))} (hf : f_X12_neededTolerance_16_b l0 l2 μ = some z) (hk : (Sum.elim (fun s : Nat × Int32 × MS => WW X D cy b r μ' 5 0 0 16 [(0, .ref (b + s.1)), (2, .int s.2.1)] [] s.2.2) (fun z : Int32 × MS => r = some (.int z.1) ∧ μ' = z.2)) z) : WW X D cy b r μ' 5 0 0 16 [(0, .ref (b + l0)), (2, .int l2)] [] μ := by
  unfold f_X12_neededTolerance_16_b at hf
  refine r_iload_n hB 1 rfl (by decide +kernel : decode cX12_neededTolerance 16 = .ok (.iload_n 2, 1)) rfl ?_
  refine r_bipush hB (v := 41) (by decide +kernel : decode cX12_neededTolerance 17 = .ok (.bipush 41, 2)) (by decide +kernel) ?_
  refine r_icmp_ge hB (tgt := 70) (by decide +kernel : decode cX12_neededTolerance 19 = .ok (.if_icmp .ge 51, 3)) (by decide) hf (fun _ hf => ?_) (fun _ hf => ?_)
  · obtain ⟨_, hx0, rfl⟩ := xr_inv hf
    exact WW.sub [] rfl (t_X12_neededTolerance_70 hB hx0 hk)
  · refine r_aload_n hB 0 rfl (by decide +kernel : decode cX12_neededTolerance 22 = .ok (.aload_n 0, 1)) rfl ?_
    refine r_iload_n hB 1 rfl (by decide +kernel : decode cX12_neededTolerance 23 = .ok (.iload_n 2, 1)) rfl ?_
    refine r_pI hB cf12 22 (by decide) (own := "PulseRemoteModel") rfl (Or.inl k_1137) (Or.inl rfl) rfl (by decide +kernel : decode cX12_neededTolerance 24 = .ok (.putfield 229, 3)) hf (fun m24 hf => ?_)
    refine r_iconst hB (v := 1) (by decide +kernel : decode cX12_neededTolerance 27 = .ok (.iconst 1, 1)) (by decide +kernel) ?_
    refine r_istore_n hB (by decide +kernel : decode cX12_neededTolerance 28 = .ok (.istore_n 3, 1)) rfl (by decide) rfl ?_
    refine ww_lv (lv' := [(3, .int 1), (0, .ref (b + l0)), (2, .int l2)]) rfl ?_
    refine r_iconst hB (v := 0) (by decide +kernel : decode cX12_neededTolerance 29 = .ok (.iconst 0, 1)) (by decide +kernel) ?_
    refine r_istore hB (by decide +kernel : decode cX12_neededTolerance 30 = .ok (.istore 4, 2)) (by decide) rfl ?_
    refine ww_lv (lv' := [(4, .int 0), (3, .int 1), (0, .ref (b + l0)), (2, .int l2)]) rfl ?_
    exact WW.sub [2, 3, 1, 0] rfl (t_X12_neededTolerance_32 hB hf hk)
set_option maxHeartbeats 4000000 in
set_option maxRecDepth 100000 in
theorem t_X12_neededTolerance_16 {X : BX} {D : va_G} {cy : Nat → ClassId} {b : Nat} {r : Option Value} {μ' : MS} (hB : BB X D cy b yX12_neededTolerance cX12_neededTolerance 5 (some .int) rmX12_neededTolerance) {l0 : Nat} {l2 : Int32} {μ : MS} {z : (Int32 × MS)} (hf : f_X12_neededTolerance_16 l0 l2 μ = some z) (hk : (fun z : Int32 × MS => r = some (.int z.1) ∧ μ' = z.2) z) : WW X D cy b r μ' 5 0 0 16 [(0, .ref (b + l0)), (2, .int l2)] [] μ :=
  lp_ind (P := fun s : Nat × Int32 × MS => WW X D cy b r μ' 5 0 0 16 [(0, .ref (b + s.1)), (2, .int s.2.1)] [] s.2.2) (Q := (fun z : Int32 × MS => r = some (.int z.1) ∧ μ' = z.2)) (fun s z hz hk => t_X12_neededTolerance_16_b hB hz hk) (l0, l2, μ) z hf hk
set_option maxHeartbeats 4000000 in
set_option maxRecDepth 100000 in
theorem t_X12_neededTolerance_0 {X : BX} {D : va_G} {cy : Nat → ClassId} {b : Nat} {r : Option Value} {μ' : MS} (hB : BB X D cy b yX12_neededTolerance cX12_neededTolerance 5 (some .int) rmX12_neededTolerance) {l0 : Nat} {l1 : Int32} {μ : MS} {z : (Int32 × MS)} (hf : f_X12_neededTolerance l0 l1 μ = some z) (hk : (fun z : Int32 × MS => r = some (.int z.1) ∧ μ' = z.2) z) : WW X D cy b r μ' 5 0 0 0 [(0, .ref (b + l0)), (1, .int l1)] [] μ := by
  unfold f_X12_neededTolerance at hf
  refine r_iload_n hB 1 rfl (by decide +kernel : decode cX12_neededTolerance 0 = .ok (.iload_n 1, 1)) rfl ?_
  refine r_cSi hB [.int l1] [] (own := "PulseRemoteModel") rfl cmX12_isSlot smX12_isSlot (Or.inl ⟨rfl, k_1367⟩) (by decide) rfl rfl rfl (Nat.le_of_ble_eq_true rfl) (by decide +kernel : decode cX12_neededTolerance 1 = .ok (.invokestatic 199, 3)) (fun z hz => m_X12_isSlot _ _ _ _ hz) rfl hf (fun z1 hf => ?_)
  refine r_if_ne hB (tgt := 9) (by decide +kernel : decode cX12_neededTolerance 4 = .ok (.ifCond .ne 5, 3)) (by decide) hf (fun _ hf => ?_) (fun _ hf => ?_)
  · refine r_iconst hB (v := (-1)) (by decide +kernel : decode cX12_neededTolerance 7 = .ok (.iconst (-1), 1)) (by decide +kernel) ?_
    obtain rfl := Option.some.inj hf
    obtain ⟨rfl, rfl⟩ := hk
    exact r_iret hB (by decide +kernel : decode cX12_neededTolerance 8 = .ok (.ireturn, 1))
  · refine r_aload_n hB 0 rfl (by decide +kernel : decode cX12_neededTolerance 9 = .ok (.aload_n 0, 1)) rfl ?_
    refine r_iload_n hB 1 rfl (by decide +kernel : decode cX12_neededTolerance 10 = .ok (.iload_n 1, 1)) rfl ?_
    refine r_cVv hB [.int l1] [] cf12 (own := "PulseRemoteModel") rfl cmX12_opens imX12_opens (Or.inl k_1440) (by decide) rfl rfl rfl (Nat.le_of_ble_eq_true rfl) (by decide +kernel : decode cX12_neededTolerance 11 = .ok (.invokevirtual 277, 3)) (fun z hz => m_X12_opens _ _ _ _ hz) rfl hf (fun z11 hf => ?_)
    refine r_iconst hB (v := 0) (by decide +kernel : decode cX12_neededTolerance 14 = .ok (.iconst 0, 1)) (by decide +kernel) ?_
    refine r_istore_n hB (by decide +kernel : decode cX12_neededTolerance 15 = .ok (.istore_n 2, 1)) rfl (by decide) rfl ?_
    refine ww_lv (lv' := [(2, .int 0), (0, .ref (b + l0)), (1, .int l1)]) rfl ?_
    exact WW.sub [1, 0] rfl (t_X12_neededTolerance_16 hB hf hk)
theorem m_X12_neededTolerance (l : Launch) (D : va_G) (cy : Nat → ClassId) (b : Nat) {l0 : Nat} {l1 : Int32} {μ : MS} {z : Int32 × MS} (hf : f_X12_neededTolerance l0 l1 μ = some z) : Met l yX12_neededTolerance (.code yX12_neededTolerance cX12_neededTolerance 5 (some .int) :: GW) rmX12_neededTolerance (Pw D cy b [.ref (b + l0), .int l1] μ) (Qw D cy b (some (.int z.1)) (z.2)) rmX12_neededTolerance.cells rmX12_neededTolerance.slots (fun q => b ≤ q) :=
  met_of (by decide) (Nat.le_of_ble_eq_true rfl) (fun X hB _ => (t_X12_neededTolerance_0 hB hf ⟨rfl, rfl⟩))
-- PulseRemoteModel.findsClusters(I)V
set_option maxHeartbeats 4000000 in
set_option maxRecDepth 100000 in
theorem t_X12_findsClusters_242 {X : BX} {D : va_G} {cy : Nat → ClassId} {b : Nat} {r : Option Value} {μ' : MS} (hB : BB X D cy b yX12_findsClusters cX12_findsClusters 6 none rmX12_findsClusters)  {μ : MS} {z : MS} (hf : f_X12_findsClusters_242  μ = some z) (hk : (fun z : MS => r = none ∧ μ' = z) z) : WW X D cy b r μ' 6 0 0 242 [] [] μ := by
  unfold f_X12_findsClusters_242 at hf
  obtain rfl := Option.some.inj hf
  obtain ⟨rfl, rfl⟩ := hk
  exact r_vret hB (by decide +kernel : decode cX12_findsClusters 242 = .ok (.return_, 1))
set_option maxHeartbeats 4000000 in
set_option maxRecDepth 100000 in
theorem t_X12_findsClusters_236 {X : BX} {D : va_G} {cy : Nat → ClassId} {b : Nat} {r : Option Value} {μ' : MS} (hB : BB X D cy b yX12_findsClusters cX12_findsClusters 6 none rmX12_findsClusters) {l0 : Nat} {l2 : Int32} {l3 : Int32} {l4 : Int32} {μ : MS} {z : ((Nat × Int32 × Int32 × Int32 × MS) ⊕ MS)} (hf : f_X12_findsClusters_236 l0 l2 l3 l4 μ = some z) (hk : (Sum.elim (fun s : Nat × Int32 × Int32 × Int32 × MS => WW X D cy b r μ' 6 0 0 149 [(0, .ref (b + s.1)), (2, .int s.2.1), (3, .int s.2.2.1), (4, .int s.2.2.2.1)] [] s.2.2.2.2) (fun z : MS => r = none ∧ μ' = z)) z) : WW X D cy b r μ' 6 0 0 236 [(0, .ref (b + l0)), (2, .int l2), (3, .int l3), (4, .int l4)] [] μ := by
  unfold f_X12_findsClusters_236 at hf
  refine r_iincB hB 3 rfl (by decide +kernel : decode cX12_findsClusters 236 = .ok (.iinc 4 1, 3)) (w := 1) (by decide +kernel) (by decide) hf (fun v236 hf => ?_)
  refine ww_lv (lv' := [(4, .int v236), (0, .ref (b + l0)), (2, .int l2), (3, .int l3)]) rfl ?_
  refine r_goto hB (tgt := 149) (by decide +kernel : decode cX12_findsClusters 239 = .ok (.goto (-90), 3)) (by decide) ?_
  obtain rfl := Option.some.inj hf
  exact WW.sub [1, 2, 3, 0] rfl hk
set_option maxHeartbeats 4000000 in
set_option maxRecDepth 100000 in
theorem t_X12_findsClusters_202 {X : BX} {D : va_G} {cy : Nat → ClassId} {b : Nat} {r : Option Value} {μ' : MS} (hB : BB X D cy b yX12_findsClusters cX12_findsClusters 6 none rmX12_findsClusters) {l0 : Nat} {l2 : Int32} {l3 : Int32} {l4 : Int32} {μ : MS} {z : ((Nat × Int32 × Int32 × Int32 × MS) ⊕ MS)} (hf : f_X12_findsClusters_202 l0 l2 l3 l4 μ = some z) (hk : (Sum.elim (fun s : Nat × Int32 × Int32 × Int32 × MS => WW X D cy b r μ' 6 0 0 149 [(0, .ref (b + s.1)), (2, .int s.2.1), (3, .int s.2.2.1), (4, .int s.2.2.2.1)] [] s.2.2.2.2) (fun z : MS => r = none ∧ μ' = z)) z) : WW X D cy b r μ' 6 0 0 202 [(0, .ref (b + l0)), (2, .int l2), (3, .int l3), (4, .int l4)] [] μ := by
  unfold f_X12_findsClusters_202 at hf
  refine r_aload_n hB 0 rfl (by decide +kernel : decode cX12_findsClusters 202 = .ok (.aload_n 0, 1)) rfl ?_
  refine r_gR hB cf12 35 (by decide) (own := "PulseRemoteModel") rfl (Or.inl k_1150) (by decide +kernel) (by decide +kernel : decode cX12_findsClusters 203 = .ok (.getfield 60, 3)) hf (fun x203 hf => ?_)
  refine r_aload_n hB 0 rfl (by decide +kernel : decode cX12_findsClusters 206 = .ok (.aload_n 0, 1)) rfl ?_
  refine r_gI hB cf12 34 (by decide) (own := "PulseRemoteModel") rfl (Or.inl k_1149) (by decide +kernel) (by decide +kernel : decode cX12_findsClusters 207 = .ok (.getfield 297, 3)) hf (fun x207 hf => ?_)
  refine r_iload_n hB 1 rfl (by decide +kernel : decode cX12_findsClusters 210 = .ok (.iload_n 2, 1)) rfl ?_
  refine r_iload hB 3 rfl (by decide +kernel : decode cX12_findsClusters 211 = .ok (.iload 4, 2)) ?_
  refine r_iconst hB (v := 1) (by decide +kernel : decode cX12_findsClusters 213 = .ok (.iconst 1, 1)) (by decide +kernel) ?_
  refine r_iadd hB (by decide +kernel : decode cX12_findsClusters 214 = .ok (.iadd, 1)) ?_
  refine r_iload_n hB 2 rfl (by decide +kernel : decode cX12_findsClusters 215 = .ok (.iload_n 3, 1)) rfl ?_
  refine r_isub hB (by decide +kernel : decode cX12_findsClusters 216 = .ok (.isub, 1)) ?_
  refine r_idiv hB (by decide +kernel : decode cX12_findsClusters 217 = .ok (.idiv, 1)) hf (fun v217 hf => ?_)
  refine r_iast hB (by decide +kernel : decode cX12_findsClusters 218 = .ok (.iastore, 1)) hf (fun m218 hf => ?_)
  refine r_aload_n hB 0 rfl (by decide +kernel : decode cX12_findsClusters 219 = .ok (.aload_n 0, 1)) rfl ?_
  refine r_dup hB (by decide +kernel : decode cX12_findsClusters 220 = .ok (.dup, 1)) rfl ?_
  refine r_gI hB cf12 34 (by decide) (own := "PulseRemoteModel") rfl (Or.inl k_1149) (by decide +kernel) (by decide +kernel : decode cX12_findsClusters 221 = .ok (.getfield 297, 3)) hf (fun x221 hf => ?_)
  refine r_iconst hB (v := 1) (by decide +kernel : decode cX12_findsClusters 224 = .ok (.iconst 1, 1)) (by decide +kernel) ?_
  refine r_iadd hB (by decide +kernel : decode cX12_findsClusters 225 = .ok (.iadd, 1)) ?_
  refine r_pI hB cf12 34 (by decide) (own := "PulseRemoteModel") rfl (Or.inl k_1149) (Or.inl rfl) rfl (by decide +kernel : decode cX12_findsClusters 226 = .ok (.putfield 297, 3)) hf (fun m226 hf => ?_)
  refine r_iconst hB (v := 0) (by decide +kernel : decode cX12_findsClusters 229 = .ok (.iconst 0, 1)) (by decide +kernel) ?_
  refine r_istore_n hB (by decide +kernel : decode cX12_findsClusters 230 = .ok (.istore_n 2, 1)) rfl (by decide) rfl ?_
  refine ww_lv (lv' := [(2, .int 0), (0, .ref (b + l0)), (3, .int l3), (4, .int l4)]) rfl ?_
  refine r_iload hB 3 rfl (by decide +kernel : decode cX12_findsClusters 231 = .ok (.iload 4, 2)) ?_
  refine r_iconst hB (v := 1) (by decide +kernel : decode cX12_findsClusters 233 = .ok (.iconst 1, 1)) (by decide +kernel) ?_
  refine r_iadd hB (by decide +kernel : decode cX12_findsClusters 234 = .ok (.iadd, 1)) ?_
  refine r_name hf (fun v235 hf => ?_)
  refine r_istore_n hB (by decide +kernel : decode cX12_findsClusters 235 = .ok (.istore_n 3, 1)) rfl (by decide) rfl ?_
  refine ww_lv (lv' := [(3, .int v235), (2, .int 0), (0, .ref (b + l0)), (4, .int l4)]) rfl ?_
  exact WW.sub [2, 1, 0, 3] rfl (t_X12_findsClusters_236 hB hf hk)
set_option maxHeartbeats 4000000 in
set_option maxRecDepth 100000 in
theorem t_X12_findsClusters_149_b {X : BX} {D : va_G} {cy : Nat → ClassId} {b : Nat} {r : Option Value} {μ' : MS} (hB : BB X D cy b yX12_findsClusters cX12_findsClusters 6 none rmX12_findsClusters) {l0 : Nat} {l2 : Int32} {l3 : Int32} {l4 : Int32} {μ : MS} {z : ((Nat × Int32 × Int32 × Int32 × MS) ⊕ MS)} (hf : f_X12_findsClusters_149_b l0 l2 l3 l4 μ = some z) (hk : (Sum.elim (fun s : Nat × Int32 × Int32 × Int32 × MS => WW X D cy b r μ' 6 0 0 149 [(0, .ref (b + s.1)), (2, .int s.2.1), (3, .int s.2.2.1), (4, .int s.2.2.2.1)] [] s.2.2.2.2) (fun z : MS => r = none ∧ μ' = z)) z) : WW X D cy b r μ' 6 0 0 149 [(0, .ref (b + l0)), (2, .int l2), (3, .int l3), (4, .int l4)] [] μ := by
  unfold f_X12_findsClusters_149_b at hf
  refine r_iload hB 3 rfl (by decide +kernel : decode cX12_findsClusters 149 = .ok (.iload 4, 2)) ?_
  refine r_aload_n hB 0 rfl (by decide +kernel : decode cX12_findsClusters 151 = .ok (.aload_n 0, 1)) rfl ?_
  refine r_gI hB cf12 33 (by decide) (own := "PulseRemoteModel") rfl (Or.inl k_1148) (by decide +kernel) (by decide +kernel : decode cX12_findsClusters 152 = .ok (.getfield 294, 3)) hf (fun x152 hf => ?_)
  refine r_icmp_ge hB (tgt := 242) (by decide +kernel : decode cX12_findsClusters 155 = .ok (.if_icmp .ge 87, 3)) (by decide) hf (fun _ hf => ?_) (fun _ hf => ?_)
  · obtain ⟨_, hx0, rfl⟩ := xr_inv hf
    exact WW.sub [] rfl (t_X12_findsClusters_242 hB hx0 hk)
  · refine r_iload_n hB 1 rfl (by decide +kernel : decode cX12_findsClusters 158 = .ok (.iload_n 2, 1)) rfl ?_
    refine r_aload_n hB 0 rfl (by decide +kernel : decode cX12_findsClusters 159 = .ok (.aload_n 0, 1)) rfl ?_
    refine r_gR hB cf12 32 (by decide) (own := "PulseRemoteModel") rfl (Or.inl k_1147) (by decide +kernel) (by decide +kernel : decode cX12_findsClusters 160 = .ok (.getfield 57, 3)) hf (fun x160 hf => ?_)
    refine r_iload hB 3 rfl (by decide +kernel : decode cX12_findsClusters 163 = .ok (.iload 4, 2)) ?_
    refine r_iald hB (by decide +kernel : decode cX12_findsClusters 165 = .ok (.iaload, 1)) hf (fun x165 hf => ?_)
    refine r_iadd hB (by decide +kernel : decode cX12_findsClusters 166 = .ok (.iadd, 1)) ?_
    refine r_name hf (fun v167 hf => ?_)
    refine r_istore_n hB (by decide +kernel : decode cX12_findsClusters 167 = .ok (.istore_n 2, 1)) rfl (by decide) rfl ?_
    refine ww_lv (lv' := [(2, .int v167), (0, .ref (b + l0)), (3, .int l3), (4, .int l4)]) rfl ?_
    refine r_iload hB 3 rfl (by decide +kernel : decode cX12_findsClusters 168 = .ok (.iload 4, 2)) ?_
    refine r_iconst hB (v := 1) (by decide +kernel : decode cX12_findsClusters 170 = .ok (.iconst 1, 1)) (by decide +kernel) ?_
    refine r_iadd hB (by decide +kernel : decode cX12_findsClusters 171 = .ok (.iadd, 1)) ?_
    refine r_aload_n hB 1 rfl (by decide +kernel : decode cX12_findsClusters 172 = .ok (.aload_n 0, 1)) rfl ?_
    refine r_gI hB cf12 33 (by decide) (own := "PulseRemoteModel") rfl (Or.inl k_1148) (by decide +kernel) (by decide +kernel : decode cX12_findsClusters 173 = .ok (.getfield 294, 3)) hf (fun x173 hf => ?_)
    refine r_icmp_eq hB (tgt := 202) (by decide +kernel : decode cX12_findsClusters 176 = .ok (.if_icmp .eq 26, 3)) (by decide) hf (fun _ hf => ?_) (fun _ hf => ?_)
    · exact WW.sub [1, 0, 2, 3] rfl (t_X12_findsClusters_202 hB hf hk)
    · refine r_iconst hB (v := 2) (by decide +kernel : decode cX12_findsClusters 179 = .ok (.iconst 2, 1)) (by decide +kernel) ?_
      refine r_aload_n hB 1 rfl (by decide +kernel : decode cX12_findsClusters 180 = .ok (.aload_n 0, 1)) rfl ?_
      refine r_gR hB cf12 32 (by decide) (own := "PulseRemoteModel") rfl (Or.inl k_1147) (by decide +kernel) (by decide +kernel : decode cX12_findsClusters 181 = .ok (.getfield 57, 3)) hf (fun x181 hf => ?_)
      refine r_iload hB 3 rfl (by decide +kernel : decode cX12_findsClusters 184 = .ok (.iload 4, 2)) ?_
      refine r_iconst hB (v := 1) (by decide +kernel : decode cX12_findsClusters 186 = .ok (.iconst 1, 1)) (by decide +kernel) ?_
      refine r_iadd hB (by decide +kernel : decode cX12_findsClusters 187 = .ok (.iadd, 1)) ?_
      refine r_iald hB (by decide +kernel : decode cX12_findsClusters 188 = .ok (.iaload, 1)) hf (fun x188 hf => ?_)
      refine r_imul hB (by decide +kernel : decode cX12_findsClusters 189 = .ok (.imul, 1)) ?_
      refine r_iconst hB (v := 3) (by decide +kernel : decode cX12_findsClusters 190 = .ok (.iconst 3, 1)) (by decide +kernel) ?_
      refine r_aload_n hB 1 rfl (by decide +kernel : decode cX12_findsClusters 191 = .ok (.aload_n 0, 1)) rfl ?_
      refine r_gR hB cf12 32 (by decide) (own := "PulseRemoteModel") rfl (Or.inl k_1147) (by decide +kernel) (by decide +kernel : decode cX12_findsClusters 192 = .ok (.getfield 57, 3)) hf (fun x192 hf => ?_)
      refine r_iload hB 3 rfl (by decide +kernel : decode cX12_findsClusters 195 = .ok (.iload 4, 2)) ?_
      refine r_iald hB (by decide +kernel : decode cX12_findsClusters 197 = .ok (.iaload, 1)) hf (fun x197 hf => ?_)
      refine r_imul hB (by decide +kernel : decode cX12_findsClusters 198 = .ok (.imul, 1)) ?_
      refine r_icmp_le hB (tgt := 236) (by decide +kernel : decode cX12_findsClusters 199 = .ok (.if_icmp .le 37, 3)) (by decide) hf (fun _ hf => ?_) (fun _ hf => ?_)
      · exact WW.sub [1, 0, 2, 3] rfl (t_X12_findsClusters_236 hB hf hk)
      · exact WW.sub [1, 0, 2, 3] rfl (t_X12_findsClusters_202 hB hf hk)
set_option maxHeartbeats 4000000 in
set_option maxRecDepth 100000 in
theorem t_X12_findsClusters_149 {X : BX} {D : va_G} {cy : Nat → ClassId} {b : Nat} {r : Option Value} {μ' : MS} (hB : BB X D cy b yX12_findsClusters cX12_findsClusters 6 none rmX12_findsClusters) {l0 : Nat} {l2 : Int32} {l3 : Int32} {l4 : Int32} {μ : MS} {z : MS} (hf : f_X12_findsClusters_149 l0 l2 l3 l4 μ = some z) (hk : (fun z : MS => r = none ∧ μ' = z) z) : WW X D cy b r μ' 6 0 0 149 [(0, .ref (b + l0)), (2, .int l2), (3, .int l3), (4, .int l4)] [] μ :=
  lp_ind (P := fun s : Nat × Int32 × Int32 × Int32 × MS => WW X D cy b r μ' 6 0 0 149 [(0, .ref (b + s.1)), (2, .int s.2.1), (3, .int s.2.2.1), (4, .int s.2.2.2.1)] [] s.2.2.2.2) (Q := (fun z : MS => r = none ∧ μ' = z)) (fun s z hz hk => t_X12_findsClusters_149_b hB hz hk) (l0, l2, l3, l4, μ) z hf hk
set_option maxHeartbeats 4000000 in
set_option maxRecDepth 100000 in
theorem t_X12_findsClusters_137 {X : BX} {D : va_G} {cy : Nat → ClassId} {b : Nat} {r : Option Value} {μ' : MS} (hB : BB X D cy b yX12_findsClusters cX12_findsClusters 6 none rmX12_findsClusters) {l0 : Nat} {μ : MS} {z : MS} (hf : f_X12_findsClusters_137 l0 μ = some z) (hk : (fun z : MS => r = none ∧ μ' = z) z) : WW X D cy b r μ' 6 0 0 137 [(0, .ref (b + l0))] [] μ := by
  unfold f_X12_findsClusters_137 at hf
  refine r_aload_n hB 0 rfl (by decide +kernel : decode cX12_findsClusters 137 = .ok (.aload_n 0, 1)) rfl ?_
  refine r_iconst hB (v := 0) (by decide +kernel : decode cX12_findsClusters 138 = .ok (.iconst 0, 1)) (by decide +kernel) ?_
  refine r_pI hB cf12 34 (by decide) (own := "PulseRemoteModel") rfl (Or.inl k_1149) (Or.inl rfl) rfl (by decide +kernel : decode cX12_findsClusters 139 = .ok (.putfield 297, 3)) hf (fun m139 hf => ?_)
  refine r_iconst hB (v := 0) (by decide +kernel : decode cX12_findsClusters 142 = .ok (.iconst 0, 1)) (by decide +kernel) ?_
  refine r_istore_n hB (by decide +kernel : decode cX12_findsClusters 143 = .ok (.istore_n 2, 1)) rfl (by decide) rfl ?_
  refine ww_lv (lv' := [(2, .int 0), (0, .ref (b + l0))]) rfl ?_
  refine r_iconst hB (v := 0) (by decide +kernel : decode cX12_findsClusters 144 = .ok (.iconst 0, 1)) (by decide +kernel) ?_
  refine r_istore_n hB (by decide +kernel : decode cX12_findsClusters 145 = .ok (.istore_n 3, 1)) rfl (by decide) rfl ?_
  refine ww_lv (lv' := [(3, .int 0), (2, .int 0), (0, .ref (b + l0))]) rfl ?_
  refine r_iconst hB (v := 0) (by decide +kernel : decode cX12_findsClusters 146 = .ok (.iconst 0, 1)) (by decide +kernel) ?_
  refine r_istore hB (by decide +kernel : decode cX12_findsClusters 147 = .ok (.istore 4, 2)) (by decide) rfl ?_
  refine ww_lv (lv' := [(4, .int 0), (3, .int 0), (2, .int 0), (0, .ref (b + l0))]) rfl ?_
  exact WW.sub [3, 2, 1, 0] rfl (t_X12_findsClusters_149 hB hf hk)
set_option maxHeartbeats 4000000 in
set_option maxRecDepth 100000 in
theorem t_X12_findsClusters_131 {X : BX} {D : va_G} {cy : Nat → ClassId} {b : Nat} {r : Option Value} {μ' : MS} (hB : BB X D cy b yX12_findsClusters cX12_findsClusters 6 none rmX12_findsClusters) {l0 : Nat} {l1 : Int32} {l2 : Int32} {μ : MS} {z : ((Nat × Int32 × Int32 × MS) ⊕ MS)} (hf : f_X12_findsClusters_131 l0 l1 l2 μ = some z) (hk : (Sum.elim (fun s : Nat × Int32 × Int32 × MS => WW X D cy b r μ' 6 0 0 7 [(0, .ref (b + s.1)), (1, .int s.2.1), (2, .int s.2.2.1)] [] s.2.2.2) (fun z : MS => r = none ∧ μ' = z)) z) : WW X D cy b r μ' 6 0 0 131 [(0, .ref (b + l0)), (1, .int l1), (2, .int l2)] [] μ := by
  unfold f_X12_findsClusters_131 at hf
  refine r_iincB hB 2 rfl (by decide +kernel : decode cX12_findsClusters 131 = .ok (.iinc 2 1, 3)) (w := 1) (by decide +kernel) (by decide) hf (fun v131 hf => ?_)
  refine ww_lv (lv' := [(2, .int v131), (0, .ref (b + l0)), (1, .int l1)]) rfl ?_
  refine r_goto hB (tgt := 7) (by decide +kernel : decode cX12_findsClusters 134 = .ok (.goto (-127), 3)) (by decide) ?_
  obtain rfl := Option.some.inj hf
  exact WW.sub [1, 2, 0] rfl hk
set_option maxHeartbeats 4000000 in
set_option maxRecDepth 100000 in
theorem t_X12_findsClusters_106 {X : BX} {D : va_G} {cy : Nat → ClassId} {b : Nat} {r : Option Value} {μ' : MS} (hB : BB X D cy b yX12_findsClusters cX12_findsClusters 6 none rmX12_findsClusters) {l0 : Nat} {l1 : Int32} {l2 : Int32} {l3 : Int32} {l4 : Int32} {l5 : Int32} {μ : MS} {z : ((Nat × Int32 × Int32 × Int32 × MS) ⊕ ((Nat × Int32 × Int32 × MS) ⊕ MS))} (hf : f_X12_findsClusters_106 l0 l1 l2 l3 l4 l5 μ = some z) (hk : (Sum.elim (fun s : Nat × Int32 × Int32 × Int32 × MS => WW X D cy b r μ' 6 0 0 19 [(0, .ref (b + s.1)), (1, .int s.2.1), (2, .int s.2.2.1), (3, .int s.2.2.2.1)] [] s.2.2.2.2) (Sum.elim (fun s : Nat × Int32 × Int32 × MS => WW X D cy b r μ' 6 0 0 7 [(0, .ref (b + s.1)), (1, .int s.2.1), (2, .int s.2.2.1)] [] s.2.2.2) (fun z : MS => r = none ∧ μ' = z))) z) : WW X D cy b r μ' 6 0 0 106 [(0, .ref (b + l0)), (1, .int l1), (2, .int l2), (3, .int l3), (4, .int l4), (5, .int l5)] [] μ := by
  unfold f_X12_findsClusters_106 at hf
  refine r_aload_n hB 0 rfl (by decide +kernel : decode cX12_findsClusters 106 = .ok (.aload_n 0, 1)) rfl ?_
  refine r_gR hB cf12 32 (by decide) (own := "PulseRemoteModel") rfl (Or.inl k_1147) (by decide +kernel) (by decide +kernel : decode cX12_findsClusters 107 = .ok (.getfield 57, 3)) hf (fun x107 hf => ?_)
  refine r_iload hB 5 rfl (by decide +kernel : decode cX12_findsClusters 110 = .ok (.iload 5, 2)) ?_
  refine r_iload hB 4 rfl (by decide +kernel : decode cX12_findsClusters 112 = .ok (.iload 4, 2)) ?_
  refine r_iast hB (by decide +kernel : decode cX12_findsClusters 114 = .ok (.iastore, 1)) hf (fun m114 hf => ?_)
  refine r_aload_n hB 0 rfl (by decide +kernel : decode cX12_findsClusters 115 = .ok (.aload_n 0, 1)) rfl ?_
  refine r_dup hB (by decide +kernel : decode cX12_findsClusters 116 = .ok (.dup, 1)) rfl ?_
  refine r_gI hB cf12 33 (by decide) (own := "PulseRemoteModel") rfl (Or.inl k_1148) (by decide +kernel) (by decide +kernel : decode cX12_findsClusters 117 = .ok (.getfield 294, 3)) hf (fun x117 hf => ?_)
  refine r_iconst hB (v := 1) (by decide +kernel : decode cX12_findsClusters 120 = .ok (.iconst 1, 1)) (by decide +kernel) ?_
  refine r_iadd hB (by decide +kernel : decode cX12_findsClusters 121 = .ok (.iadd, 1)) ?_
  refine r_pI hB cf12 33 (by decide) (own := "PulseRemoteModel") rfl (Or.inl k_1148) (Or.inl rfl) rfl (by decide +kernel : decode cX12_findsClusters 122 = .ok (.putfield 294, 3)) hf (fun m122 hf => ?_)
  refine r_iincB hB 3 rfl (by decide +kernel : decode cX12_findsClusters 125 = .ok (.iinc 3 2, 3)) (w := 2) (by decide +kernel) (by decide) hf (fun v125 hf => ?_)
  refine ww_lv (lv' := [(3, .int v125), (0, .ref (b + l0)), (1, .int l1), (2, .int l2), (4, .int l4), (5, .int l5)]) rfl ?_
  refine r_goto hB (tgt := 19) (by decide +kernel : decode cX12_findsClusters 128 = .ok (.goto (-109), 3)) (by decide) ?_
  obtain rfl := Option.some.inj hf
  exact WW.sub [1, 2, 3, 0] rfl hk
set_option maxHeartbeats 4000000 in
set_option maxRecDepth 100000 in
theorem t_X12_findsClusters_65_b {X : BX} {D : va_G} {cy : Nat → ClassId} {b : Nat} {r : Option Value} {μ' : MS} (hB : BB X D cy b yX12_findsClusters cX12_findsClusters 6 none rmX12_findsClusters) {l0 : Nat} {l1 : Int32} {l2 : Int32} {l3 : Int32} {l4 : Int32} {l5 : Int32} {μ : MS} {z : ((Nat × Int32 × Int32 × Int32 × Int32 × Int32 × MS) ⊕ ((Nat × Int32 × Int32 × Int32 × MS) ⊕ ((Nat × Int32 × Int32 × MS) ⊕ MS)))} (hf : f_X12_findsClusters_65_b l0 l1 l2 l3 l4 l5 μ = some z) (hk : (Sum.elim (fun s : Nat × Int32 × Int32 × Int32 × Int32 × Int32 × MS => WW X D cy b r μ' 6 0 0 65 [(0, .ref (b + s.1)), (1, .int s.2.1), (2, .int s.2.2.1), (3, .int s.2.2.2.1), (4, .int s.2.2.2.2.1), (5, .int s.2.2.2.2.2.1)] [] s.2.2.2.2.2.2) (Sum.elim (fun s : Nat × Int32 × Int32 × Int32 × MS => WW X D cy b r μ' 6 0 0 19 [(0, .ref (b + s.1)), (1, .int s.2.1), (2, .int s.2.2.1), (3, .int s.2.2.2.1)] [] s.2.2.2.2) (Sum.elim (fun s : Nat × Int32 × Int32 × MS => WW X D cy b r μ' 6 0 0 7 [(0, .ref (b + s.1)), (1, .int s.2.1), (2, .int s.2.2.1)] [] s.2.2.2) (fun z : MS => r = none ∧ μ' = z)))) z) : WW X D cy b r μ' 6 0 0 65 [(0, .ref (b + l0)), (1, .int l1), (2, .int l2), (3, .int l3), (4, .int l4), (5, .int l5)] [] μ := by
  unfold f_X12_findsClusters_65_b at hf
  refine r_iload hB 5 rfl (by decide +kernel : decode cX12_findsClusters 65 = .ok (.iload 5, 2)) ?_
  refine r_if_le hB (tgt := 106) (by decide +kernel : decode cX12_findsClusters 67 = .ok (.ifCond .le 39, 3)) (by decide) hf (fun _ hf => ?_) (fun _ hf => ?_)
  · obtain ⟨_, hx0, rfl⟩ := xr_inv hf
    exact WW.sub [0, 1, 2, 3, 4, 5] rfl (t_X12_findsClusters_106 hB hx0 hk)
  · refine r_aload_n hB 0 rfl (by decide +kernel : decode cX12_findsClusters 70 = .ok (.aload_n 0, 1)) rfl ?_
    refine r_gR hB cf12 32 (by decide) (own := "PulseRemoteModel") rfl (Or.inl k_1147) (by decide +kernel) (by decide +kernel : decode cX12_findsClusters 71 = .ok (.getfield 57, 3)) hf (fun x71 hf => ?_)
    refine r_iload hB 5 rfl (by decide +kernel : decode cX12_findsClusters 74 = .ok (.iload 5, 2)) ?_
    refine r_iconst hB (v := 1) (by decide +kernel : decode cX12_findsClusters 76 = .ok (.iconst 1, 1)) (by decide +kernel) ?_
    refine r_isub hB (by decide +kernel : decode cX12_findsClusters 77 = .ok (.isub, 1)) ?_
    refine r_iald hB (by decide +kernel : decode cX12_findsClusters 78 = .ok (.iaload, 1)) hf (fun x78 hf => ?_)
    refine r_iload hB 4 rfl (by decide +kernel : decode cX12_findsClusters 79 = .ok (.iload 4, 2)) ?_
    refine r_icmp_le hB (tgt := 106) (by decide +kernel : decode cX12_findsClusters 81 = .ok (.if_icmp .le 25, 3)) (by decide) hf (fun _ hf => ?_) (fun _ hf => ?_)
    · obtain ⟨_, hx0, rfl⟩ := xr_inv hf
      exact WW.sub [0, 1, 2, 3, 4, 5] rfl (t_X12_findsClusters_106 hB hx0 hk)
    · refine r_aload_n hB 0 rfl (by decide +kernel : decode cX12_findsClusters 84 = .ok (.aload_n 0, 1)) rfl ?_
      refine r_gR hB cf12 32 (by decide) (own := "PulseRemoteModel") rfl (Or.inl k_1147) (by decide +kernel) (by decide +kernel : decode cX12_findsClusters 85 = .ok (.getfield 57, 3)) hf (fun x85 hf => ?_)
      refine r_iload hB 5 rfl (by decide +kernel : decode cX12_findsClusters 88 = .ok (.iload 5, 2)) ?_
      refine r_aload_n hB 0 rfl (by decide +kernel : decode cX12_findsClusters 90 = .ok (.aload_n 0, 1)) rfl ?_
      refine r_gR hB cf12 32 (by decide) (own := "PulseRemoteModel") rfl (Or.inl k_1147) (by decide +kernel) (by decide +kernel : decode cX12_findsClusters 91 = .ok (.getfield 57, 3)) hf (fun x91 hf => ?_)
      refine r_iload hB 5 rfl (by decide +kernel : decode cX12_findsClusters 94 = .ok (.iload 5, 2)) ?_
      refine r_iconst hB (v := 1) (by decide +kernel : decode cX12_findsClusters 96 = .ok (.iconst 1, 1)) (by decide +kernel) ?_
      refine r_isub hB (by decide +kernel : decode cX12_findsClusters 97 = .ok (.isub, 1)) ?_
      refine r_iald hB (by decide +kernel : decode cX12_findsClusters 98 = .ok (.iaload, 1)) hf (fun x98 hf => ?_)
      refine r_iast hB (by decide +kernel : decode cX12_findsClusters 99 = .ok (.iastore, 1)) hf (fun m99 hf => ?_)
      refine r_iincB hB 5 rfl (by decide +kernel : decode cX12_findsClusters 100 = .ok (.iinc 5 (-1), 3)) (w := (-1)) (by decide +kernel) (by decide) hf (fun v100 hf => ?_)
      refine ww_lv (lv' := [(5, .int v100), (0, .ref (b + l0)), (1, .int l1), (2, .int l2), (3, .int l3), (4, .int l4)]) rfl ?_
      refine r_goto hB (tgt := 65) (by decide +kernel : decode cX12_findsClusters 103 = .ok (.goto (-38), 3)) (by decide) ?_
      obtain rfl := Option.some.inj hf
      exact WW.sub [1, 2, 3, 4, 5, 0] rfl hk
set_option maxHeartbeats 4000000 in
set_option maxRecDepth 100000 in
theorem t_X12_findsClusters_65 {X : BX} {D : va_G} {cy : Nat → ClassId} {b : Nat} {r : Option Value} {μ' : MS} (hB : BB X D cy b yX12_findsClusters cX12_findsClusters 6 none rmX12_findsClusters) {l0 : Nat} {l1 : Int32} {l2 : Int32} {l3 : Int32} {l4 : Int32} {l5 : Int32} {μ : MS} {z : ((Nat × Int32 × Int32 × Int32 × MS) ⊕ ((Nat × Int32 × Int32 × MS) ⊕ MS))} (hf : f_X12_findsClusters_65 l0 l1 l2 l3 l4 l5 μ = some z) (hk : (Sum.elim (fun s : Nat × Int32 × Int32 × Int32 × MS => WW X D cy b r μ' 6 0 0 19 [(0, .ref (b + s.1)), (1, .int s.2.1), (2, .int s.2.2.1), (3, .int s.2.2.2.1)] [] s.2.2.2.2) (Sum.elim (fun s : Nat × Int32 × Int32 × MS => WW X D cy b r μ' 6 0 0 7 [(0, .ref (b + s.1)), (1, .int s.2.1), (2, .int s.2.2.1)] [] s.2.2.2) (fun z : MS => r = none ∧ μ' = z))) z) : WW X D cy b r μ' 6 0 0 65 [(0, .ref (b + l0)), (1, .int l1), (2, .int l2), (3, .int l3), (4, .int l4), (5, .int l5)] [] μ :=
  lp_ind (P := fun s : Nat × Int32 × Int32 × Int32 × Int32 × Int32 × MS => WW X D cy b r μ' 6 0 0 65 [(0, .ref (b + s.1)), (1, .int s.2.1), (2, .int s.2.2.1), (3, .int s.2.2.2.1), (4, .int s.2.2.2.2.1), (5, .int s.2.2.2.2.2.1)] [] s.2.2.2.2.2.2) (Q := (Sum.elim (fun s : Nat × Int32 × Int32 × Int32 × MS => WW X D cy b r μ' 6 0 0 19 [(0, .ref (b + s.1)), (1, .int s.2.1), (2, .int s.2.2.1), (3, .int s.2.2.2.1)] [] s.2.2.2.2) (Sum.elim (fun s : Nat × Int32 × Int32 × MS => WW X D cy b r μ' 6 0 0 7 [(0, .ref (b + s.1)), (1, .int s.2.1), (2, .int s.2.2.1)] [] s.2.2.2) (fun z : MS => r = none ∧ μ' = z)))) (fun s z hz hk => t_X12_findsClusters_65_b hB hz hk) (l0, l1, l2, l3, l4, l5, μ) z hf hk
set_option maxHeartbeats 4000000 in
set_option maxRecDepth 100000 in
theorem t_X12_findsClusters_19_b {X : BX} {D : va_G} {cy : Nat → ClassId} {b : Nat} {r : Option Value} {μ' : MS} (hB : BB X D cy b yX12_findsClusters cX12_findsClusters 6 none rmX12_findsClusters) {l0 : Nat} {l1 : Int32} {l2 : Int32} {l3 : Int32} {μ : MS} {z : ((Nat × Int32 × Int32 × Int32 × MS) ⊕ ((Nat × Int32 × Int32 × MS) ⊕ MS))} (hf : f_X12_findsClusters_19_b l0 l1 l2 l3 μ = some z) (hk : (Sum.elim (fun s : Nat × Int32 × Int32 × Int32 × MS => WW X D cy b r μ' 6 0 0 19 [(0, .ref (b + s.1)), (1, .int s.2.1), (2, .int s.2.2.1), (3, .int s.2.2.2.1)] [] s.2.2.2.2) (Sum.elim (fun s : Nat × Int32 × Int32 × MS => WW X D cy b r μ' 6 0 0 7 [(0, .ref (b + s.1)), (1, .int s.2.1), (2, .int s.2.2.1)] [] s.2.2.2) (fun z : MS => r = none ∧ μ' = z))) z) : WW X D cy b r μ' 6 0 0 19 [(0, .ref (b + l0)), (1, .int l1), (2, .int l2), (3, .int l3)] [] μ := by
  unfold f_X12_findsClusters_19_b at hf
  refine r_iload_n hB 3 rfl (by decide +kernel : decode cX12_findsClusters 19 = .ok (.iload_n 3, 1)) rfl ?_
  refine r_aload_n hB 0 rfl (by decide +kernel : decode cX12_findsClusters 20 = .ok (.aload_n 0, 1)) rfl ?_
  refine r_gR hB cf12 20 (by decide) (own := "PulseRemoteModel") rfl (Or.inl k_1135) (by decide +kernel) (by decide +kernel : decode cX12_findsClusters 21 = .ok (.getfield 41, 3)) hf (fun x21 hf => ?_)
  refine r_iload_n hB 2 rfl (by decide +kernel : decode cX12_findsClusters 24 = .ok (.iload_n 2, 1)) rfl ?_
  refine r_iald hB (by decide +kernel : decode cX12_findsClusters 25 = .ok (.iaload, 1)) hf (fun x25 hf => ?_)
  refine r_icmp_ge hB (tgt := 131) (by decide +kernel : decode cX12_findsClusters 26 = .ok (.if_icmp .ge 105, 3)) (by decide) hf (fun _ hf => ?_) (fun _ hf => ?_)
  · obtain ⟨_, hx0, rfl⟩ := xr_inv hf
    exact WW.sub [0, 1, 2] rfl (t_X12_findsClusters_131 hB hx0 hk)
  · refine r_aload_n hB 0 rfl (by decide +kernel : decode cX12_findsClusters 29 = .ok (.aload_n 0, 1)) rfl ?_
    refine r_gR hB cf12 20 (by decide) (own := "PulseRemoteModel") rfl (Or.inl k_1135) (by decide +kernel) (by decide +kernel : decode cX12_findsClusters 30 = .ok (.getfield 41, 3)) hf (fun x30 hf => ?_)
    refine r_iload_n hB 2 rfl (by decide +kernel : decode cX12_findsClusters 33 = .ok (.iload_n 2, 1)) rfl ?_
    refine r_iald hB (by decide +kernel : decode cX12_findsClusters 34 = .ok (.iaload, 1)) hf (fun x34 hf => ?_)
    refine r_aload_n hB 0 rfl (by decide +kernel : decode cX12_findsClusters 35 = .ok (.aload_n 0, 1)) rfl ?_
    refine r_gR hB cf12 20 (by decide) (own := "PulseRemoteModel") rfl (Or.inl k_1135) (by decide +kernel) (by decide +kernel : decode cX12_findsClusters 36 = .ok (.getfield 41, 3)) hf (fun x36 hf => ?_)
    refine r_iconst hB (v := 0) (by decide +kernel : decode cX12_findsClusters 39 = .ok (.iconst 0, 1)) (by decide +kernel) ?_
    refine r_iald hB (by decide +kernel : decode cX12_findsClusters 40 = .ok (.iaload, 1)) hf (fun x40 hf => ?_)
    refine r_icmp_ne hB (tgt := 131) (by decide +kernel : decode cX12_findsClusters 41 = .ok (.if_icmp .ne 90, 3)) (by decide) hf (fun _ hf => ?_) (fun _ hf => ?_)
    · refine r_aload_n hB 0 rfl (by decide +kernel : decode cX12_findsClusters 44 = .ok (.aload_n 0, 1)) rfl ?_
      refine r_gR hB cf12 13 (by decide) (own := "PulseRemoteModel") rfl (Or.inl k_1128) (by decide +kernel) (by decide +kernel : decode cX12_findsClusters 45 = .ok (.getfield 26, 3)) hf (fun x45 hf => ?_)
      refine r_aload_n hB 0 rfl (by decide +kernel : decode cX12_findsClusters 48 = .ok (.aload_n 0, 1)) rfl ?_
      refine r_gR hB cf12 19 (by decide) (own := "PulseRemoteModel") rfl (Or.inl k_1134) (by decide +kernel) (by decide +kernel : decode cX12_findsClusters 49 = .ok (.getfield 38, 3)) hf (fun x49 hf => ?_)
      refine r_iload_n hB 2 rfl (by decide +kernel : decode cX12_findsClusters 52 = .ok (.iload_n 2, 1)) rfl ?_
      refine r_iald hB (by decide +kernel : decode cX12_findsClusters 53 = .ok (.iaload, 1)) hf (fun x53 hf => ?_)
      refine r_iload_n hB 3 rfl (by decide +kernel : decode cX12_findsClusters 54 = .ok (.iload_n 3, 1)) rfl ?_
      refine r_iadd hB (by decide +kernel : decode cX12_findsClusters 55 = .ok (.iadd, 1)) ?_
      refine r_iald hB (by decide +kernel : decode cX12_findsClusters 56 = .ok (.iaload, 1)) hf (fun x56 hf => ?_)
      refine r_istore hB (by decide +kernel : decode cX12_findsClusters 57 = .ok (.istore 4, 2)) (by decide) rfl ?_
      refine ww_lv (lv' := [(4, .int x56), (0, .ref (b + l0)), (1, .int l1), (2, .int l2), (3, .int l3)]) rfl ?_
      refine r_aload_n hB 1 rfl (by decide +kernel : decode cX12_findsClusters 59 = .ok (.aload_n 0, 1)) rfl ?_
      refine r_gI hB cf12 33 (by decide) (own := "PulseRemoteModel") rfl (Or.inl k_1148) (by decide +kernel) (by decide +kernel : decode cX12_findsClusters 60 = .ok (.getfield 294, 3)) hf (fun x60 hf => ?_)
      refine r_istore hB (by decide +kernel : decode cX12_findsClusters 63 = .ok (.istore 5, 2)) (by decide) rfl ?_
      refine ww_lv (lv' := [(5, .int x60), (4, .int x56), (0, .ref (b + l0)), (1, .int l1), (2, .int l2), (3, .int l3)]) rfl ?_
      exact WW.sub [2, 3, 4, 5, 1, 0] rfl (t_X12_findsClusters_65 hB hf hk)
    · obtain ⟨_, hx0, rfl⟩ := xr_inv hf
      exact WW.sub [0, 1, 2] rfl (t_X12_findsClusters_131 hB hx0 hk)
set_option maxHeartbeats 4000000 in
set_option maxRecDepth 100000 in
theorem t_X12_findsClusters_19 {X : BX} {D : va_G} {cy : Nat → ClassId} {b : Nat} {r : Option Value} {μ' : MS} (hB : BB X D cy b yX12_findsClusters cX12_findsClusters 6 none rmX12_findsClusters) {l0 : Nat} {l1 : Int32} {l2 : Int32} {l3 : Int32} {μ : MS} {z : ((Nat × Int32 × Int32 × MS) ⊕ MS)} (hf : f_X12_findsClusters_19 l0 l1 l2 l3 μ = some z) (hk : (Sum.elim (fun s : Nat × Int32 × Int32 × MS => WW X D cy b r μ' 6 0 0 7 [(0, .ref (b + s.1)), (1, .int s.2.1), (2, .int s.2.2.1)] [] s.2.2.2) (fun z : MS => r = none ∧ μ' = z)) z) : WW X D cy b r μ' 6 0 0 19 [(0, .ref (b + l0)), (1, .int l1), (2, .int l2), (3, .int l3)] [] μ :=
  lp_ind (P := fun s : Nat × Int32 × Int32 × Int32 × MS => WW X D cy b r μ' 6 0 0 19 [(0, .ref (b + s.1)), (1, .int s.2.1), (2, .int s.2.2.1), (3, .int s.2.2.2.1)] [] s.2.2.2.2) (Q := (Sum.elim (fun s : Nat × Int32 × Int32 × MS => WW X D cy b r μ' 6 0 0 7 [(0, .ref (b + s.1)), (1, .int s.2.1), (2, .int s.2.2.1)] [] s.2.2.2) (fun z : MS => r = none ∧ μ' = z))) (fun s z hz hk => t_X12_findsClusters_19_b hB hz hk) (l0, l1, l2, l3, μ) z hf hk
set_option maxHeartbeats 4000000 in
set_option maxRecDepth 100000 in
theorem t_X12_findsClusters_7_b {X : BX} {D : va_G} {cy : Nat → ClassId} {b : Nat} {r : Option Value} {μ' : MS} (hB : BB X D cy b yX12_findsClusters cX12_findsClusters 6 none rmX12_findsClusters) {l0 : Nat} {l1 : Int32} {l2 : Int32} {μ : MS} {z : ((Nat × Int32 × Int32 × MS) ⊕ MS)} (hf : f_X12_findsClusters_7_b l0 l1 l2 μ = some z) (hk : (Sum.elim (fun s : Nat × Int32 × Int32 × MS => WW X D cy b r μ' 6 0 0 7 [(0, .ref (b + s.1)), (1, .int s.2.1), (2, .int s.2.2.1)] [] s.2.2.2) (fun z : MS => r = none ∧ μ' = z)) z) : WW X D cy b r μ' 6 0 0 7 [(0, .ref (b + l0)), (1, .int l1), (2, .int l2)] [] μ := by
  unfold f_X12_findsClusters_7_b at hf
  refine r_iload_n hB 2 rfl (by decide +kernel : decode cX12_findsClusters 7 = .ok (.iload_n 2, 1)) rfl ?_
  refine r_aload_n hB 0 rfl (by decide +kernel : decode cX12_findsClusters 8 = .ok (.aload_n 0, 1)) rfl ?_
  refine r_gI hB cf12 21 (by decide) (own := "PulseRemoteModel") rfl (Or.inl k_1136) (by decide +kernel) (by decide +kernel : decode cX12_findsClusters 9 = .ok (.getfield 224, 3)) hf (fun x9 hf => ?_)
  refine r_icmp_ge hB (tgt := 137) (by decide +kernel : decode cX12_findsClusters 12 = .ok (.if_icmp .ge 125, 3)) (by decide) hf (fun _ hf => ?_) (fun _ hf => ?_)
  · obtain ⟨_, hx0, rfl⟩ := xr_inv hf
    exact WW.sub [0] rfl (t_X12_findsClusters_137 hB hx0 hk)
  · refine r_iconst hB (v := 2) (by decide +kernel : decode cX12_findsClusters 15 = .ok (.iconst 2, 1)) (by decide +kernel) ?_
    refine r_iload_n hB 1 rfl (by decide +kernel : decode cX12_findsClusters 16 = .ok (.iload_n 1, 1)) rfl ?_
    refine r_iadd hB (by decide +kernel : decode cX12_findsClusters 17 = .ok (.iadd, 1)) ?_
    refine r_name hf (fun v18 hf => ?_)
    refine r_istore_n hB (by decide +kernel : decode cX12_findsClusters 18 = .ok (.istore_n 3, 1)) rfl (by decide) rfl ?_
    refine ww_lv (lv' := [(3, .int v18), (0, .ref (b + l0)), (1, .int l1), (2, .int l2)]) rfl ?_
    exact WW.sub [1, 2, 3, 0] rfl (t_X12_findsClusters_19 hB hf hk)
set_option maxHeartbeats 4000000 in
set_option maxRecDepth 100000 in
theorem t_X12_findsClusters_7 {X : BX} {D : va_G} {cy : Nat → ClassId} {b : Nat} {r : Option Value} {μ' : MS} (hB : BB X D cy b yX12_findsClusters cX12_findsClusters 6 none rmX12_findsClusters) {l0 : Nat} {l1 : Int32} {l2 : Int32} {μ : MS} {z : MS} (hf : f_X12_findsClusters_7 l0 l1 l2 μ = some z) (hk : (fun z : MS => r = none ∧ μ' = z) z) : WW X D cy b r μ' 6 0 0 7 [(0, .ref (b + l0)), (1, .int l1), (2, .int l2)] [] μ :=
  lp_ind (P := fun s : Nat × Int32 × Int32 × MS => WW X D cy b r μ' 6 0 0 7 [(0, .ref (b + s.1)), (1, .int s.2.1), (2, .int s.2.2.1)] [] s.2.2.2) (Q := (fun z : MS => r = none ∧ μ' = z)) (fun s z hz hk => t_X12_findsClusters_7_b hB hz hk) (l0, l1, l2, μ) z hf hk
set_option maxHeartbeats 4000000 in
set_option maxRecDepth 100000 in
theorem t_X12_findsClusters_0 {X : BX} {D : va_G} {cy : Nat → ClassId} {b : Nat} {r : Option Value} {μ' : MS} (hB : BB X D cy b yX12_findsClusters cX12_findsClusters 6 none rmX12_findsClusters) {l0 : Nat} {l1 : Int32} {μ : MS} {z : MS} (hf : f_X12_findsClusters l0 l1 μ = some z) (hk : (fun z : MS => r = none ∧ μ' = z) z) : WW X D cy b r μ' 6 0 0 0 [(0, .ref (b + l0)), (1, .int l1)] [] μ := by
  unfold f_X12_findsClusters at hf
  refine r_aload_n hB 0 rfl (by decide +kernel : decode cX12_findsClusters 0 = .ok (.aload_n 0, 1)) rfl ?_
  refine r_iconst hB (v := 0) (by decide +kernel : decode cX12_findsClusters 1 = .ok (.iconst 0, 1)) (by decide +kernel) ?_
  refine r_pI hB cf12 33 (by decide) (own := "PulseRemoteModel") rfl (Or.inl k_1148) (Or.inl rfl) rfl (by decide +kernel : decode cX12_findsClusters 2 = .ok (.putfield 294, 3)) hf (fun m2 hf => ?_)
  refine r_iconst hB (v := 0) (by decide +kernel : decode cX12_findsClusters 5 = .ok (.iconst 0, 1)) (by decide +kernel) ?_
  refine r_istore_n hB (by decide +kernel : decode cX12_findsClusters 6 = .ok (.istore_n 2, 1)) rfl (by decide) rfl ?_
  refine ww_lv (lv' := [(2, .int 0), (0, .ref (b + l0)), (1, .int l1)]) rfl ?_
  exact WW.sub [1, 2, 0] rfl (t_X12_findsClusters_7 hB hf hk)
theorem m_X12_findsClusters (l : Launch) (D : va_G) (cy : Nat → ClassId) (b : Nat) {l0 : Nat} {l1 : Int32} {μ : MS} {z : MS} (hf : f_X12_findsClusters l0 l1 μ = some z) : Met l yX12_findsClusters (.code yX12_findsClusters cX12_findsClusters 6 none :: GW) rmX12_findsClusters (Pw D cy b [.ref (b + l0), .int l1] μ) (Qw D cy b (none) (z)) rmX12_findsClusters.cells rmX12_findsClusters.slots (fun q => b ≤ q) :=
  met_of (by decide) (Nat.le_of_ble_eq_true rfl) (fun X hB _ => (t_X12_findsClusters_0 hB hf ⟨rfl, rfl⟩))
-- PulseRemoteModel.meanOf(I)I
set_option maxHeartbeats 4000000 in
set_option maxRecDepth 100000 in
theorem t_X12_meanOf_83 {X : BX} {D : va_G} {cy : Nat → ClassId} {b : Nat} {r : Option Value} {μ' : MS} (hB : BB X D cy b yX12_meanOf cX12_meanOf 5 (some .int) rmX12_meanOf) {l2 : Int32} {l3 : Int32} {μ : MS} {z : (Int32 × MS)} (hf : f_X12_meanOf_83 l2 l3 μ = some z) (hk : (fun z : Int32 × MS => r = some (.int z.1) ∧ μ' = z.2) z) : WW X D cy b r μ' 5 0 0 83 [(2, .int l2), (3, .int l3)] [] μ := by
  unfold f_X12_meanOf_83 at hf
  refine r_iload_n hB 0 rfl (by decide +kernel : decode cX12_meanOf 83 = .ok (.iload_n 2, 1)) rfl ?_
  refine r_iload_n hB 1 rfl (by decide +kernel : decode cX12_meanOf 84 = .ok (.iload_n 3, 1)) rfl ?_
  refine r_idiv hB (by decide +kernel : decode cX12_meanOf 85 = .ok (.idiv, 1)) hf (fun v85 hf => ?_)
  obtain rfl := Option.some.inj hf
  obtain ⟨rfl, rfl⟩ := hk
  exact r_iret hB (by decide +kernel : decode cX12_meanOf 86 = .ok (.ireturn, 1))
set_option maxHeartbeats 4000000 in
set_option maxRecDepth 100000 in
theorem t_X12_meanOf_75 {X : BX} {D : va_G} {cy : Nat → ClassId} {b : Nat} {r : Option Value} {μ' : MS} (hB : BB X D cy b yX12_meanOf cX12_meanOf 5 (some .int) rmX12_meanOf) {l0 : Nat} {l1 : Int32} {l2 : Int32} {l4 : Int32} {s0 : Int32} {s1 : Int32} {μ : MS} {z : ((Nat × Int32 × Int32 × Int32 × Int32 × MS) ⊕ (Int32 × MS))} (hf : f_X12_meanOf_75 l0 l1 l2 l4 s0 s1 μ = some z) (hk : (Sum.elim (fun s : Nat × Int32 × Int32 × Int32 × Int32 × MS => WW X D cy b r μ' 5 0 0 7 [(0, .ref (b + s.1)), (1, .int s.2.1), (2, .int s.2.2.1), (3, .int s.2.2.2.1), (4, .int s.2.2.2.2.1)] [] s.2.2.2.2.2) (fun z : Int32 × MS => r = some (.int z.1) ∧ μ' = z.2)) z) : WW X D cy b r μ' 5 0 0 75 [(0, .ref (b + l0)), (1, .int l1), (2, .int l2), (4, .int l4)] [.int s0, .int s1] μ := by
  unfold f_X12_meanOf_75 at hf
  refine r_iadd hB (by decide +kernel : decode cX12_meanOf 75 = .ok (.iadd, 1)) ?_
  refine r_name hf (fun v76 hf => ?_)
  refine r_istore_n hB (by decide +kernel : decode cX12_meanOf 76 = .ok (.istore_n 3, 1)) rfl (by decide) rfl ?_
  refine ww_lv (lv' := [(3, .int v76), (0, .ref (b + l0)), (1, .int l1), (2, .int l2), (4, .int l4)]) rfl ?_
  refine r_iincB hB 4 rfl (by decide +kernel : decode cX12_meanOf 77 = .ok (.iinc 4 1, 3)) (w := 1) (by decide +kernel) (by decide) hf (fun v77 hf => ?_)
  refine ww_lv (lv' := [(4, .int v77), (3, .int v76), (0, .ref (b + l0)), (1, .int l1), (2, .int l2)]) rfl ?_
  refine r_goto hB (tgt := 7) (by decide +kernel : decode cX12_meanOf 80 = .ok (.goto (-73), 3)) (by decide) ?_
  obtain rfl := Option.some.inj hf
  exact WW.sub [2, 3, 4, 1, 0] rfl hk
set_option maxHeartbeats 4000000 in
set_option maxRecDepth 100000 in
theorem t_X12_meanOf_51 {X : BX} {D : va_G} {cy : Nat → ClassId} {b : Nat} {r : Option Value} {μ' : MS} (hB : BB X D cy b yX12_meanOf cX12_meanOf 5 (some .int) rmX12_meanOf) {l0 : Nat} {l1 : Int32} {l3 : Int32} {l4 : Int32} {s0 : Int32} {s1 : Int32} {μ : MS} {z : ((Nat × Int32 × Int32 × Int32 × Int32 × MS) ⊕ (Int32 × MS))} (hf : f_X12_meanOf_51 l0 l1 l3 l4 s0 s1 μ = some z) (hk : (Sum.elim (fun s : Nat × Int32 × Int32 × Int32 × Int32 × MS => WW X D cy b r μ' 5 0 0 7 [(0, .ref (b + s.1)), (1, .int s.2.1), (2, .int s.2.2.1), (3, .int s.2.2.2.1), (4, .int s.2.2.2.2.1)] [] s.2.2.2.2.2) (fun z : Int32 × MS => r = some (.int z.1) ∧ μ' = z.2)) z) : WW X D cy b r μ' 5 0 0 51 [(0, .ref (b + l0)), (1, .int l1), (3, .int l3), (4, .int l4)] [.int s0, .int s1] μ := by
  unfold f_X12_meanOf_51 at hf
  refine r_iadd hB (by decide +kernel : decode cX12_meanOf 51 = .ok (.iadd, 1)) ?_
  refine r_name hf (fun v52 hf => ?_)
  refine r_istore_n hB (by decide +kernel : decode cX12_meanOf 52 = .ok (.istore_n 2, 1)) rfl (by decide) rfl ?_
  refine ww_lv (lv' := [(2, .int v52), (0, .ref (b + l0)), (1, .int l1), (3, .int l3), (4, .int l4)]) rfl ?_
  refine r_iload_n hB 3 rfl (by decide +kernel : decode cX12_meanOf 53 = .ok (.iload_n 3, 1)) rfl ?_
  refine r_aload_n hB 1 rfl (by decide +kernel : decode cX12_meanOf 54 = .ok (.aload_n 0, 1)) rfl ?_
  refine r_gR hB cf12 20 (by decide) (own := "PulseRemoteModel") rfl (Or.inl k_1135) (by decide +kernel) (by decide +kernel : decode cX12_meanOf 55 = .ok (.getfield 41, 3)) hf (fun x55 hf => ?_)
  refine r_iload hB 4 rfl (by decide +kernel : decode cX12_meanOf 58 = .ok (.iload 4, 2)) ?_
  refine r_iald hB (by decide +kernel : decode cX12_meanOf 60 = .ok (.iaload, 1)) hf (fun x60 hf => ?_)
  refine r_aload_n hB 1 rfl (by decide +kernel : decode cX12_meanOf 61 = .ok (.aload_n 0, 1)) rfl ?_
  refine r_gR hB cf12 20 (by decide) (own := "PulseRemoteModel") rfl (Or.inl k_1135) (by decide +kernel) (by decide +kernel : decode cX12_meanOf 62 = .ok (.getfield 41, 3)) hf (fun x62 hf => ?_)
  refine r_iconst hB (v := 0) (by decide +kernel : decode cX12_meanOf 65 = .ok (.iconst 0, 1)) (by decide +kernel) ?_
  refine r_iald hB (by decide +kernel : decode cX12_meanOf 66 = .ok (.iaload, 1)) hf (fun x66 hf => ?_)
  refine r_icmp_ne hB (tgt := 74) (by decide +kernel : decode cX12_meanOf 67 = .ok (.if_icmp .ne 7, 3)) (by decide) hf (fun _ hf => ?_) (fun _ hf => ?_)
  · refine r_iconst hB (v := 1) (by decide +kernel : decode cX12_meanOf 70 = .ok (.iconst 1, 1)) (by decide +kernel) ?_
    refine r_goto hB (tgt := 75) (by decide +kernel : decode cX12_meanOf 71 = .ok (.goto 4, 3)) (by decide) ?_
    exact WW.sub [1, 2, 0, 4] rfl (t_X12_meanOf_75 hB hf hk)
  · refine r_iconst hB (v := 0) (by decide +kernel : decode cX12_meanOf 74 = .ok (.iconst 0, 1)) (by decide +kernel) ?_
    exact WW.sub [1, 2, 0, 4] rfl (t_X12_meanOf_75 hB hf hk)
set_option maxHeartbeats 4000000 in
set_option maxRecDepth 100000 in
theorem t_X12_meanOf_7_b {X : BX} {D : va_G} {cy : Nat → ClassId} {b : Nat} {r : Option Value} {μ' : MS} (hB : BB X D cy b yX12_meanOf cX12_meanOf 5 (some .int) rmX12_meanOf) {l0 : Nat} {l1 : Int32} {l2 : Int32} {l3 : Int32} {l4 : Int32} {μ : MS} {z : ((Nat × Int32 × Int32 × Int32 × Int32 × MS) ⊕ (Int32 × MS))} (hf : f_X12_meanOf_7_b l0 l1 l2 l3 l4 μ = some z) (hk : (Sum.elim (fun s : Nat × Int32 × Int32 × Int32 × Int32 × MS => WW X D cy b r μ' 5 0 0 7 [(0, .ref (b + s.1)), (1, .int s.2.1), (2, .int s.2.2.1), (3, .int s.2.2.2.1), (4, .int s.2.2.2.2.1)] [] s.2.2.2.2.2) (fun z : Int32 × MS => r = some (.int z.1) ∧ μ' = z.2)) z) : WW X D cy b r μ' 5 0 0 7 [(0, .ref (b + l0)), (1, .int l1), (2, .int l2), (3, .int l3), (4, .int l4)] [] μ := by
  unfold f_X12_meanOf_7_b at hf
  refine r_iload hB 4 rfl (by decide +kernel : decode cX12_meanOf 7 = .ok (.iload 4, 2)) ?_
  refine r_aload_n hB 0 rfl (by decide +kernel : decode cX12_meanOf 9 = .ok (.aload_n 0, 1)) rfl ?_
  refine r_gI hB cf12 21 (by decide) (own := "PulseRemoteModel") rfl (Or.inl k_1136) (by decide +kernel) (by decide +kernel : decode cX12_meanOf 10 = .ok (.getfield 224, 3)) hf (fun x10 hf => ?_)
  refine r_icmp_ge hB (tgt := 83) (by decide +kernel : decode cX12_meanOf 13 = .ok (.if_icmp .ge 70, 3)) (by decide) hf (fun _ hf => ?_) (fun _ hf => ?_)
  · obtain ⟨_, hx0, rfl⟩ := xr_inv hf
    exact WW.sub [2, 3] rfl (t_X12_meanOf_83 hB hx0 hk)
  · refine r_iload_n hB 2 rfl (by decide +kernel : decode cX12_meanOf 16 = .ok (.iload_n 2, 1)) rfl ?_
    refine r_aload_n hB 0 rfl (by decide +kernel : decode cX12_meanOf 17 = .ok (.aload_n 0, 1)) rfl ?_
    refine r_gR hB cf12 20 (by decide) (own := "PulseRemoteModel") rfl (Or.inl k_1135) (by decide +kernel) (by decide +kernel : decode cX12_meanOf 18 = .ok (.getfield 41, 3)) hf (fun x18 hf => ?_)
    refine r_iload hB 4 rfl (by decide +kernel : decode cX12_meanOf 21 = .ok (.iload 4, 2)) ?_
    refine r_iald hB (by decide +kernel : decode cX12_meanOf 23 = .ok (.iaload, 1)) hf (fun x23 hf => ?_)
    refine r_aload_n hB 0 rfl (by decide +kernel : decode cX12_meanOf 24 = .ok (.aload_n 0, 1)) rfl ?_
    refine r_gR hB cf12 20 (by decide) (own := "PulseRemoteModel") rfl (Or.inl k_1135) (by decide +kernel) (by decide +kernel : decode cX12_meanOf 25 = .ok (.getfield 41, 3)) hf (fun x25 hf => ?_)
    refine r_iconst hB (v := 0) (by decide +kernel : decode cX12_meanOf 28 = .ok (.iconst 0, 1)) (by decide +kernel) ?_
    refine r_iald hB (by decide +kernel : decode cX12_meanOf 29 = .ok (.iaload, 1)) hf (fun x29 hf => ?_)
    refine r_icmp_ne hB (tgt := 50) (by decide +kernel : decode cX12_meanOf 30 = .ok (.if_icmp .ne 20, 3)) (by decide) hf (fun _ hf => ?_) (fun _ hf => ?_)
    · refine r_aload_n hB 0 rfl (by decide +kernel : decode cX12_meanOf 33 = .ok (.aload_n 0, 1)) rfl ?_
      refine r_gR hB cf12 13 (by decide) (own := "PulseRemoteModel") rfl (Or.inl k_1128) (by decide +kernel) (by decide +kernel : decode cX12_meanOf 34 = .ok (.getfield 26, 3)) hf (fun x34 hf => ?_)
      refine r_aload_n hB 0 rfl (by decide +kernel : decode cX12_meanOf 37 = .ok (.aload_n 0, 1)) rfl ?_
      refine r_gR hB cf12 19 (by decide) (own := "PulseRemoteModel") rfl (Or.inl k_1134) (by decide +kernel) (by decide +kernel : decode cX12_meanOf 38 = .ok (.getfield 38, 3)) hf (fun x38 hf => ?_)
      refine r_iload hB 4 rfl (by decide +kernel : decode cX12_meanOf 41 = .ok (.iload 4, 2)) ?_
      refine r_iald hB (by decide +kernel : decode cX12_meanOf 43 = .ok (.iaload, 1)) hf (fun x43 hf => ?_)
      refine r_iload_n hB 1 rfl (by decide +kernel : decode cX12_meanOf 44 = .ok (.iload_n 1, 1)) rfl ?_
      refine r_iadd hB (by decide +kernel : decode cX12_meanOf 45 = .ok (.iadd, 1)) ?_
      refine r_iald hB (by decide +kernel : decode cX12_meanOf 46 = .ok (.iaload, 1)) hf (fun x46 hf => ?_)
      refine r_goto hB (tgt := 51) (by decide +kernel : decode cX12_meanOf 47 = .ok (.goto 4, 3)) (by decide) ?_
      exact WW.sub [0, 1, 3, 4] rfl (t_X12_meanOf_51 hB hf hk)
    · refine r_iconst hB (v := 0) (by decide +kernel : decode cX12_meanOf 50 = .ok (.iconst 0, 1)) (by decide +kernel) ?_
      exact WW.sub [0, 1, 3, 4] rfl (t_X12_meanOf_51 hB hf hk)
set_option maxHeartbeats 4000000 in
set_option maxRecDepth 100000 in
theorem t_X12_meanOf_7 {X : BX} {D : va_G} {cy : Nat → ClassId} {b : Nat} {r : Option Value} {μ' : MS} (hB : BB X D cy b yX12_meanOf cX12_meanOf 5 (some .int) rmX12_meanOf) {l0 : Nat} {l1 : Int32} {l2 : Int32} {l3 : Int32} {l4 : Int32} {μ : MS} {z : (Int32 × MS)} (hf : f_X12_meanOf_7 l0 l1 l2 l3 l4 μ = some z) (hk : (fun z : Int32 × MS => r = some (.int z.1) ∧ μ' = z.2) z) : WW X D cy b r μ' 5 0 0 7 [(0, .ref (b + l0)), (1, .int l1), (2, .int l2), (3, .int l3), (4, .int l4)] [] μ :=
  lp_ind (P := fun s : Nat × Int32 × Int32 × Int32 × Int32 × MS => WW X D cy b r μ' 5 0 0 7 [(0, .ref (b + s.1)), (1, .int s.2.1), (2, .int s.2.2.1), (3, .int s.2.2.2.1), (4, .int s.2.2.2.2.1)] [] s.2.2.2.2.2) (Q := (fun z : Int32 × MS => r = some (.int z.1) ∧ μ' = z.2)) (fun s z hz hk => t_X12_meanOf_7_b hB hz hk) (l0, l1, l2, l3, l4, μ) z hf hk
set_option maxHeartbeats 4000000 in
set_option maxRecDepth 100000 in
theorem t_X12_meanOf_0 {X : BX} {D : va_G} {cy : Nat → ClassId} {b : Nat} {r : Option Value} {μ' : MS} (hB : BB X D cy b yX12_meanOf cX12_meanOf 5 (some .int) rmX12_meanOf) {l0 : Nat} {l1 : Int32} {μ : MS} {z : (Int32 × MS)} (hf : f_X12_meanOf l0 l1 μ = some z) (hk : (fun z : Int32 × MS => r = some (.int z.1) ∧ μ' = z.2) z) : WW X D cy b r μ' 5 0 0 0 [(0, .ref (b + l0)), (1, .int l1)] [] μ := by
  unfold f_X12_meanOf at hf
  refine r_iconst hB (v := 0) (by decide +kernel : decode cX12_meanOf 0 = .ok (.iconst 0, 1)) (by decide +kernel) ?_
  refine r_istore_n hB (by decide +kernel : decode cX12_meanOf 1 = .ok (.istore_n 2, 1)) rfl (by decide) rfl ?_
  refine ww_lv (lv' := [(2, .int 0), (0, .ref (b + l0)), (1, .int l1)]) rfl ?_
  refine r_iconst hB (v := 0) (by decide +kernel : decode cX12_meanOf 2 = .ok (.iconst 0, 1)) (by decide +kernel) ?_
  refine r_istore_n hB (by decide +kernel : decode cX12_meanOf 3 = .ok (.istore_n 3, 1)) rfl (by decide) rfl ?_
  refine ww_lv (lv' := [(3, .int 0), (2, .int 0), (0, .ref (b + l0)), (1, .int l1)]) rfl ?_
  refine r_iconst hB (v := 0) (by decide +kernel : decode cX12_meanOf 4 = .ok (.iconst 0, 1)) (by decide +kernel) ?_
  refine r_istore hB (by decide +kernel : decode cX12_meanOf 5 = .ok (.istore 4, 2)) (by decide) rfl ?_
  refine ww_lv (lv' := [(4, .int 0), (3, .int 0), (2, .int 0), (0, .ref (b + l0)), (1, .int l1)]) rfl ?_
  exact WW.sub [3, 4, 2, 1, 0] rfl (t_X12_meanOf_7 hB hf hk)
theorem m_X12_meanOf (l : Launch) (D : va_G) (cy : Nat → ClassId) (b : Nat) {l0 : Nat} {l1 : Int32} {μ : MS} {z : Int32 × MS} (hf : f_X12_meanOf l0 l1 μ = some z) : Met l yX12_meanOf (.code yX12_meanOf cX12_meanOf 5 (some .int) :: GW) rmX12_meanOf (Pw D cy b [.ref (b + l0), .int l1] μ) (Qw D cy b (some (.int z.1)) (z.2)) rmX12_meanOf.cells rmX12_meanOf.slots (fun q => b ≤ q) :=
  met_of (by decide) (Nat.le_of_ble_eq_true rfl) (fun X hB _ => (t_X12_meanOf_0 hB hf ⟨rfl, rfl⟩))
