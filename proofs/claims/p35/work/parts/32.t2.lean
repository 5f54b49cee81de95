/-! printed by wip/p35/gen.py -/
-- PulseRemote$Decoder.isIn(JI)Z
set_option maxHeartbeats 4000000 in
set_option maxRecDepth 100000 in
theorem t_X2_isIn_0 {X : BX} {D : va_G} {cy : Nat → ClassId} {b : Nat} {r : Option Value} {μ' : MS} (hB : BB X D cy b yX2_isIn cX2_isIn 3 (some .boolean) rmX2_isIn) {l0 : Int64} {l2 : Int32} {μ : MS} {z : (Int32 × MS)} (hf : f_X2_isIn l0 l2 μ = some z) (hk : (fun z : Int32 × MS => r = some (.int z.1) ∧ μ' = z.2) z) : WW X D cy b r μ' 3 0 0 0 [(0, .long l0), (2, .int l2)] [] μ := by
  unfold f_X2_isIn at hf
  refine r_lload_n hB 0 rfl (by decide +kernel : decode cX2_isIn 0 = .ok (.lload_n 0, 1)) rfl ?_
  refine r_iload_n hB 1 rfl (by decide +kernel : decode cX2_isIn 1 = .ok (.iload_n 2, 1)) rfl ?_
  refine r_lushr hB (by decide +kernel : decode cX2_isIn 2 = .ok (.lushr, 1)) ?_
  refine r_lconst hB (v := 1) (by decide +kernel : decode cX2_isIn 3 = .ok (.lconst 1, 1)) (by decide +kernel) ?_
  refine r_land hB (by decide +kernel : decode cX2_isIn 4 = .ok (.land, 1)) ?_
  refine r_lconst hB (v := 0) (by decide +kernel : decode cX2_isIn 5 = .ok (.lconst 0, 1)) (by decide +kernel) ?_
  refine r_lcmp hB (by decide +kernel : decode cX2_isIn 6 = .ok (.lcmp, 1)) ?_
  refine r_if_eq hB (tgt := 14) (by decide +kernel : decode cX2_isIn 7 = .ok (.ifCond .eq 7, 3)) (by decide) hf (fun _ hf => ?_) (fun _ hf => ?_)
  · refine r_iconst hB (v := 0) (by decide +kernel : decode cX2_isIn 14 = .ok (.iconst 0, 1)) (by decide +kernel) ?_
    obtain rfl := Option.some.inj hf
    obtain ⟨rfl, rfl⟩ := hk
    exact r_zret hB (Or.inl rfl) (by decide +kernel : decode cX2_isIn 15 = .ok (.ireturn, 1))
  · refine r_iconst hB (v := 1) (by decide +kernel : decode cX2_isIn 10 = .ok (.iconst 1, 1)) (by decide +kernel) ?_
    refine r_goto hB (tgt := 15) (by decide +kernel : decode cX2_isIn 11 = .ok (.goto 4, 3)) (by decide) ?_
    obtain rfl := Option.some.inj hf
    obtain ⟨rfl, rfl⟩ := hk
    exact r_zret hB (Or.inr rfl) (by decide +kernel : decode cX2_isIn 15 = .ok (.ireturn, 1))
theorem m_X2_isIn (l : Launch) (D : va_G) (cy : Nat → ClassId) (b : Nat) {l0 : Int64} {l2 : Int32} {μ : MS} {z : Int32 × MS} (hf : f_X2_isIn l0 l2 μ = some z) : Met l yX2_isIn (.code yX2_isIn cX2_isIn 3 (some .boolean) :: GW) rmX2_isIn (Pw D cy b [.long l0, .int l2] μ) (Qw D cy b (some (.int z.1)) (z.2)) rmX2_isIn.cells rmX2_isIn.slots (fun q => b ≤ q) :=
  met_of (by decide) (Nat.le_of_ble_eq_true rfl) (fun X hB _ => (t_X2_isIn_0 hB hf ⟨rfl, rfl⟩))
-- PulseRemote$Decoder.restOfPhaseCode(LPulseRemote$Protocol;IJJ)I
set_option maxHeartbeats 4000000 in
set_option maxRecDepth 100000 in
theorem t_X2_restOfPhaseCode_120 {X : BX} {D : va_G} {cy : Nat → ClassId} {b : Nat} {r : Option Value} {μ' : MS} (hB : BB X D cy b yX2_restOfPhaseCode cX2_restOfPhaseCode 12 (some .int) rmX2_restOfPhaseCode) {l8 : Int32} {μ : MS} {z : (Int32 × MS)} (hf : f_X2_restOfPhaseCode_120 l8 μ = some z) (hk : (fun z : Int32 × MS => r = some (.int z.1) ∧ μ' = z.2) z) : WW X D cy b r μ' 12 0 0 120 [(8, .int l8)] [] μ := by
  unfold f_X2_restOfPhaseCode_120 at hf
  refine r_iload hB 0 rfl (by decide +kernel : decode cX2_restOfPhaseCode 120 = .ok (.iload 8, 2)) ?_
  obtain rfl := Option.some.inj hf
  obtain ⟨rfl, rfl⟩ := hk
  exact r_iret hB (by decide +kernel : decode cX2_restOfPhaseCode 122 = .ok (.ireturn, 1))
set_option maxHeartbeats 4000000 in
set_option maxRecDepth 100000 in
theorem t_X2_restOfPhaseCode_107 {X : BX} {D : va_G} {cy : Nat → ClassId} {b : Nat} {r : Option Value} {μ' : MS} (hB : BB X D cy b yX2_restOfPhaseCode cX2_restOfPhaseCode 12 (some .int) rmX2_restOfPhaseCode) {l0 : Nat} {l1 : Nat} {l3 : Int64} {l5 : Int64} {l7 : Int32} {l8 : Int32} {l9 : Int32} {l11 : Int32} {μ : MS} {z : ((Nat × Nat × Int64 × Int64 × Int32 × Int32 × Int32 × MS) ⊕ (Int32 × MS))} (hf : f_X2_restOfPhaseCode_107 l0 l1 l3 l5 l7 l8 l9 l11 μ = some z) (hk : (Sum.elim (fun s : Nat × Nat × Int64 × Int64 × Int32 × Int32 × Int32 × MS => WW X D cy b r μ' 12 0 0 9 [(0, .ref (b + s.1)), (1, .ref (b + s.2.1)), (3, .long s.2.2.1), (5, .long s.2.2.2.1), (7, .int s.2.2.2.2.1), (8, .int s.2.2.2.2.2.1), (9, .int s.2.2.2.2.2.2.1)] [] s.2.2.2.2.2.2.2) (fun z : Int32 × MS => r = some (.int z.1) ∧ μ' = z.2)) z) : WW X D cy b r μ' 12 0 0 107 [(0, .ref (b + l0)), (1, .ref (b + l1)), (3, .long l3), (5, .long l5), (7, .int l7), (8, .int l8), (9, .int l9), (11, .int l11)] [] μ := by
  unfold f_X2_restOfPhaseCode_107 at hf
  refine r_iload hB 4 rfl (by decide +kernel : decode cX2_restOfPhaseCode 107 = .ok (.iload 7, 2)) ?_
  refine r_iload hB 7 rfl (by decide +kernel : decode cX2_restOfPhaseCode 109 = .ok (.iload 11, 2)) ?_
  refine r_iadd hB (by decide +kernel : decode cX2_restOfPhaseCode 111 = .ok (.iadd, 1)) ?_
  refine r_name hf (fun v112 hf => ?_)
  refine r_istore hB (by decide +kernel : decode cX2_restOfPhaseCode 112 = .ok (.istore 7, 2)) (by decide) rfl ?_
  refine ww_lv (lv' := [(7, .int v112), (0, .ref (b + l0)), (1, .ref (b + l1)), (3, .long l3), (5, .long l5), (8, .int l8), (9, .int l9), (11, .int l11)]) rfl ?_
  refine r_iincB hB 6 rfl (by decide +kernel : decode cX2_restOfPhaseCode 114 = .ok (.iinc 9 1, 3)) (w := 1) (by decide +kernel) (by decide) hf (fun v114 hf => ?_)
  refine ww_lv (lv' := [(9, .int v114), (7, .int v112), (0, .ref (b + l0)), (1, .ref (b + l1)), (3, .long l3), (5, .long l5), (8, .int l8), (11, .int l11)]) rfl ?_
  refine r_goto hB (tgt := 9) (by decide +kernel : decode cX2_restOfPhaseCode 117 = .ok (.goto (-108), 3)) (by decide) ?_
  obtain rfl := Option.some.inj hf
  exact WW.sub [2, 3, 4, 5, 1, 6, 0] rfl hk
set_option maxHeartbeats 4000000 in
set_option maxRecDepth 100000 in
theorem t_X2_restOfPhaseCode_90 {X : BX} {D : va_G} {cy : Nat → ClassId} {b : Nat} {r : Option Value} {μ' : MS} (hB : BB X D cy b yX2_restOfPhaseCode cX2_restOfPhaseCode 12 (some .int) rmX2_restOfPhaseCode) {l0 : Nat} {l1 : Nat} {l3 : Int64} {l5 : Int64} {l7 : Int32} {l8 : Int32} {l9 : Int32} {l11 : Int32} {μ : MS} {z : ((Nat × Nat × Int64 × Int64 × Int32 × Int32 × Int32 × MS) ⊕ (Int32 × MS))} (hf : f_X2_restOfPhaseCode_90 l0 l1 l3 l5 l7 l8 l9 l11 μ = some z) (hk : (Sum.elim (fun s : Nat × Nat × Int64 × Int64 × Int32 × Int32 × Int32 × MS => WW X D cy b r μ' 12 0 0 9 [(0, .ref (b + s.1)), (1, .ref (b + s.2.1)), (3, .long s.2.2.1), (5, .long s.2.2.2.1), (7, .int s.2.2.2.2.1), (8, .int s.2.2.2.2.2.1), (9, .int s.2.2.2.2.2.2.1)] [] s.2.2.2.2.2.2.2) (fun z : Int32 × MS => r = some (.int z.1) ∧ μ' = z.2)) z) : WW X D cy b r μ' 12 0 0 90 [(0, .ref (b + l0)), (1, .ref (b + l1)), (3, .long l3), (5, .long l5), (7, .int l7), (8, .int l8), (9, .int l9), (11, .int l11)] [] μ := by
  unfold f_X2_restOfPhaseCode_90 at hf
  refine r_iload hB 5 rfl (by decide +kernel : decode cX2_restOfPhaseCode 90 = .ok (.iload 8, 2)) ?_
  refine r_aload_n hB 1 rfl (by decide +kernel : decode cX2_restOfPhaseCode 92 = .ok (.aload_n 1, 1)) rfl ?_
  refine r_iload hB 6 rfl (by decide +kernel : decode cX2_restOfPhaseCode 93 = .ok (.iload 9, 2)) ?_
  refine r_cVi hB [.int l9] [.int l8] cf6 (own := "PulseRemote$Decoder") rfl cmX6_maskAt imX6_maskAt (Or.inl k_564) (by decide) rfl rfl rfl (Nat.le_of_ble_eq_true rfl) (by decide +kernel : decode cX2_restOfPhaseCode 95 = .ok (.invokevirtual 100, 3)) (fun z hz => m_X6_maskAt _ _ _ _ hz) rfl hf (fun z95 hf => ?_)
  refine r_ior hB (by decide +kernel : decode cX2_restOfPhaseCode 98 = .ok (.ior, 1)) ?_
  refine r_name hf (fun v99 hf => ?_)
  refine r_istore hB (by decide +kernel : decode cX2_restOfPhaseCode 99 = .ok (.istore 8, 2)) (by decide) rfl ?_
  refine ww_lv (lv' := [(8, .int v99), (0, .ref (b + l0)), (1, .ref (b + l1)), (3, .long l3), (5, .long l5), (7, .int l7), (9, .int l9), (11, .int l11)]) rfl ?_
  refine r_iconst hB (v := 3) (by decide +kernel : decode cX2_restOfPhaseCode 101 = .ok (.iconst 3, 1)) (by decide +kernel) ?_
  refine r_iload hB 7 rfl (by decide +kernel : decode cX2_restOfPhaseCode 102 = .ok (.iload 11, 2)) ?_
  refine r_isub hB (by decide +kernel : decode cX2_restOfPhaseCode 104 = .ok (.isub, 1)) ?_
  refine r_name hf (fun v105 hf => ?_)
  refine r_istore hB (by decide +kernel : decode cX2_restOfPhaseCode 105 = .ok (.istore 11, 2)) (by decide) rfl ?_
  refine ww_lv (lv' := [(11, .int v105), (8, .int v99), (0, .ref (b + l0)), (1, .ref (b + l1)), (3, .long l3), (5, .long l5), (7, .int l7), (9, .int l9)]) rfl ?_
  exact WW.sub [2, 3, 4, 5, 6, 1, 7, 0] rfl (t_X2_restOfPhaseCode_107 hB hf hk)
set_option maxHeartbeats 4000000 in
set_option maxRecDepth 100000 in
theorem t_X2_restOfPhaseCode_62 {X : BX} {D : va_G} {cy : Nat → ClassId} {b : Nat} {r : Option Value} {μ' : MS} (hB : BB X D cy b yX2_restOfPhaseCode cX2_restOfPhaseCode 12 (some .int) rmX2_restOfPhaseCode) {l0 : Nat} {l1 : Nat} {l3 : Int64} {l5 : Int64} {l7 : Int32} {l8 : Int32} {l9 : Int32} {l11 : Int32} {s0 : Int64} {μ : MS} {z : ((Nat × Nat × Int64 × Int64 × Int32 × Int32 × Int32 × MS) ⊕ (Int32 × MS))} (hf : f_X2_restOfPhaseCode_62 l0 l1 l3 l5 l7 l8 l9 l11 s0 μ = some z) (hk : (Sum.elim (fun s : Nat × Nat × Int64 × Int64 × Int32 × Int32 × Int32 × MS => WW X D cy b r μ' 12 0 0 9 [(0, .ref (b + s.1)), (1, .ref (b + s.2.1)), (3, .long s.2.2.1), (5, .long s.2.2.2.1), (7, .int s.2.2.2.2.1), (8, .int s.2.2.2.2.2.1), (9, .int s.2.2.2.2.2.2.1)] [] s.2.2.2.2.2.2.2) (fun z : Int32 × MS => r = some (.int z.1) ∧ μ' = z.2)) z) : WW X D cy b r μ' 12 0 0 62 [(0, .ref (b + l0)), (1, .ref (b + l1)), (3, .long l3), (5, .long l5), (7, .int l7), (8, .int l8), (9, .int l9), (11, .int l11)] [.long s0] μ := by
  unfold f_X2_restOfPhaseCode_62 at hf
  refine r_iload hB 4 rfl (by decide +kernel : decode cX2_restOfPhaseCode 62 = .ok (.iload 7, 2)) ?_
  refine r_cSi hB [.long s0, .int l7] [] (own := "PulseRemote$Decoder") rfl cmX2_isIn smX2_isIn (Or.inl ⟨rfl, k_557⟩) (by decide) rfl rfl rfl (Nat.le_of_ble_eq_true rfl) (by decide +kernel : decode cX2_restOfPhaseCode 64 = .ok (.invokestatic 112, 3)) (fun z hz => m_X2_isIn _ _ _ _ hz) rfl hf (fun z64 hf => ?_)
  refine r_if_eq hB (tgt := 90) (by decide +kernel : decode cX2_restOfPhaseCode 67 = .ok (.ifCond .eq 23, 3)) (by decide) hf (fun _ hf => ?_) (fun _ hf => ?_)
  · exact WW.sub [0, 1, 2, 3, 4, 5, 6, 7] rfl (t_X2_restOfPhaseCode_90 hB hf hk)
  · refine r_aload_n hB 0 rfl (by decide +kernel : decode cX2_restOfPhaseCode 70 = .ok (.aload_n 0, 1)) rfl ?_
    refine r_gR hB cf2 5 (by decide) (own := "PulseRemote$Decoder") rfl (Or.inl k_236) (by decide +kernel) (by decide +kernel : decode cX2_restOfPhaseCode 71 = .ok (.getfield 22, 3)) hf (fun x71 hf => ?_)
    refine r_iload hB 6 rfl (by decide +kernel : decode cX2_restOfPhaseCode 74 = .ok (.iload 9, 2)) ?_
    refine r_iconst hB (v := 1) (by decide +kernel : decode cX2_restOfPhaseCode 76 = .ok (.iconst 1, 1)) (by decide +kernel) ?_
    refine r_iadd hB (by decide +kernel : decode cX2_restOfPhaseCode 77 = .ok (.iadd, 1)) ?_
    refine r_lald hB (by decide +kernel : decode cX2_restOfPhaseCode 78 = .ok (.laload, 1)) hf (fun x78 hf => ?_)
    refine r_iload hB 4 rfl (by decide +kernel : decode cX2_restOfPhaseCode 79 = .ok (.iload 7, 2)) ?_
    refine r_iload hB 7 rfl (by decide +kernel : decode cX2_restOfPhaseCode 81 = .ok (.iload 11, 2)) ?_
    refine r_iadd hB (by decide +kernel : decode cX2_restOfPhaseCode 83 = .ok (.iadd, 1)) ?_
    refine r_cSi hB [.long x78, .int (l7 + l11)] [] (own := "PulseRemote$Decoder") rfl cmX2_isIn smX2_isIn (Or.inl ⟨rfl, k_557⟩) (by decide) rfl rfl rfl (Nat.le_of_ble_eq_true rfl) (by decide +kernel : decode cX2_restOfPhaseCode 84 = .ok (.invokestatic 112, 3)) (fun z hz => m_X2_isIn _ _ _ _ hz) rfl hf (fun z84 hf => ?_)
    refine r_if_ne hB (tgt := 107) (by decide +kernel : decode cX2_restOfPhaseCode 87 = .ok (.ifCond .ne 20, 3)) (by decide) hf (fun _ hf => ?_) (fun _ hf => ?_)
    · exact WW.sub [0, 1, 2, 3, 4, 5, 6, 7] rfl (t_X2_restOfPhaseCode_90 hB hf hk)
    · exact WW.sub [0, 1, 2, 3, 4, 5, 6, 7] rfl (t_X2_restOfPhaseCode_107 hB hf hk)
set_option maxHeartbeats 4000000 in
set_option maxRecDepth 100000 in
theorem t_X2_restOfPhaseCode_49 {X : BX} {D : va_G} {cy : Nat → ClassId} {b : Nat} {r : Option Value} {μ' : MS} (hB : BB X D cy b yX2_restOfPhaseCode cX2_restOfPhaseCode 12 (some .int) rmX2_restOfPhaseCode) {l0 : Nat} {l1 : Nat} {l3 : Int64} {l5 : Int64} {l7 : Int32} {l8 : Int32} {l9 : Int32} {l10 : Int32} {s0 : Int32} {μ : MS} {z : ((Nat × Nat × Int64 × Int64 × Int32 × Int32 × Int32 × MS) ⊕ (Int32 × MS))} (hf : f_X2_restOfPhaseCode_49 l0 l1 l3 l5 l7 l8 l9 l10 s0 μ = some z) (hk : (Sum.elim (fun s : Nat × Nat × Int64 × Int64 × Int32 × Int32 × Int32 × MS => WW X D cy b r μ' 12 0 0 9 [(0, .ref (b + s.1)), (1, .ref (b + s.2.1)), (3, .long s.2.2.1), (5, .long s.2.2.2.1), (7, .int s.2.2.2.2.1), (8, .int s.2.2.2.2.2.1), (9, .int s.2.2.2.2.2.2.1)] [] s.2.2.2.2.2.2.2) (fun z : Int32 × MS => r = some (.int z.1) ∧ μ' = z.2)) z) : WW X D cy b r μ' 12 0 0 49 [(0, .ref (b + l0)), (1, .ref (b + l1)), (3, .long l3), (5, .long l5), (7, .int l7), (8, .int l8), (9, .int l9), (10, .int l10)] [.int s0] μ := by
  unfold f_X2_restOfPhaseCode_49 at hf
  refine r_istore hB (by decide +kernel : decode cX2_restOfPhaseCode 49 = .ok (.istore 11, 2)) (by decide) rfl ?_
  refine ww_lv (lv' := [(11, .int s0), (0, .ref (b + l0)), (1, .ref (b + l1)), (3, .long l3), (5, .long l5), (7, .int l7), (8, .int l8), (9, .int l9), (10, .int l10)]) rfl ?_
  refine r_iload hB 8 rfl (by decide +kernel : decode cX2_restOfPhaseCode 51 = .ok (.iload 10, 2)) ?_
  refine r_if_eq hB (tgt := 60) (by decide +kernel : decode cX2_restOfPhaseCode 53 = .ok (.ifCond .eq 7, 3)) (by decide) hf (fun _ hf => ?_) (fun _ hf => ?_)
  · refine r_lload hB 4 rfl (by decide +kernel : decode cX2_restOfPhaseCode 60 = .ok (.lload 5, 2)) ?_
    exact WW.sub [1, 2, 3, 4, 5, 6, 7, 0] rfl (t_X2_restOfPhaseCode_62 hB hf hk)
  · refine r_lload_n hB 3 rfl (by decide +kernel : decode cX2_restOfPhaseCode 56 = .ok (.lload_n 3, 1)) rfl ?_
    refine r_goto hB (tgt := 62) (by decide +kernel : decode cX2_restOfPhaseCode 57 = .ok (.goto 5, 3)) (by decide) ?_
    exact WW.sub [1, 2, 3, 4, 5, 6, 7, 0] rfl (t_X2_restOfPhaseCode_62 hB hf hk)
set_option maxHeartbeats 4000000 in
set_option maxRecDepth 100000 in
theorem t_X2_restOfPhaseCode_37 {X : BX} {D : va_G} {cy : Nat → ClassId} {b : Nat} {r : Option Value} {μ' : MS} (hB : BB X D cy b yX2_restOfPhaseCode cX2_restOfPhaseCode 12 (some .int) rmX2_restOfPhaseCode) {l0 : Nat} {l1 : Nat} {l3 : Int64} {l5 : Int64} {l7 : Int32} {l8 : Int32} {l9 : Int32} {s0 : Int32} {μ : MS} {z : ((Nat × Nat × Int64 × Int64 × Int32 × Int32 × Int32 × MS) ⊕ (Int32 × MS))} (hf : f_X2_restOfPhaseCode_37 l0 l1 l3 l5 l7 l8 l9 s0 μ = some z) (hk : (Sum.elim (fun s : Nat × Nat × Int64 × Int64 × Int32 × Int32 × Int32 × MS => WW X D cy b r μ' 12 0 0 9 [(0, .ref (b + s.1)), (1, .ref (b + s.2.1)), (3, .long s.2.2.1), (5, .long s.2.2.2.1), (7, .int s.2.2.2.2.1), (8, .int s.2.2.2.2.2.1), (9, .int s.2.2.2.2.2.2.1)] [] s.2.2.2.2.2.2.2) (fun z : Int32 × MS => r = some (.int z.1) ∧ μ' = z.2)) z) : WW X D cy b r μ' 12 0 0 37 [(0, .ref (b + l0)), (1, .ref (b + l1)), (3, .long l3), (5, .long l5), (7, .int l7), (8, .int l8), (9, .int l9)] [.int s0] μ := by
  unfold f_X2_restOfPhaseCode_37 at hf
  refine r_istore hB (by decide +kernel : decode cX2_restOfPhaseCode 37 = .ok (.istore 10, 2)) (by decide) rfl ?_
  refine ww_lv (lv' := [(10, .int s0), (0, .ref (b + l0)), (1, .ref (b + l1)), (3, .long l3), (5, .long l5), (7, .int l7), (8, .int l8), (9, .int l9)]) rfl ?_
  refine r_iload hB 0 rfl (by decide +kernel : decode cX2_restOfPhaseCode 39 = .ok (.iload 10, 2)) ?_
  refine r_if_eq hB (tgt := 48) (by decide +kernel : decode cX2_restOfPhaseCode 41 = .ok (.ifCond .eq 7, 3)) (by decide) hf (fun _ hf => ?_) (fun _ hf => ?_)
  · refine r_iconst hB (v := 1) (by decide +kernel : decode cX2_restOfPhaseCode 48 = .ok (.iconst 1, 1)) (by decide +kernel) ?_
    exact WW.sub [1, 2, 3, 4, 5, 6, 7, 0] rfl (t_X2_restOfPhaseCode_49 hB hf hk)
  · refine r_iconst hB (v := 2) (by decide +kernel : decode cX2_restOfPhaseCode 44 = .ok (.iconst 2, 1)) (by decide +kernel) ?_
    refine r_goto hB (tgt := 49) (by decide +kernel : decode cX2_restOfPhaseCode 45 = .ok (.goto 4, 3)) (by decide) ?_
    exact WW.sub [1, 2, 3, 4, 5, 6, 7, 0] rfl (t_X2_restOfPhaseCode_49 hB hf hk)
set_option maxHeartbeats 4000000 in
set_option maxRecDepth 100000 in
theorem t_X2_restOfPhaseCode_9_b {X : BX} {D : va_G} {cy : Nat → ClassId} {b : Nat} {r : Option Value} {μ' : MS} (hB : BB X D cy b yX2_restOfPhaseCode cX2_restOfPhaseCode 12 (some .int) rmX2_restOfPhaseCode) {l0 : Nat} {l1 : Nat} {l3 : Int64} {l5 : Int64} {l7 : Int32} {l8 : Int32} {l9 : Int32} {μ : MS} {z : ((Nat × Nat × Int64 × Int64 × Int32 × Int32 × Int32 × MS) ⊕ (Int32 × MS))} (hf : f_X2_restOfPhaseCode_9_b l0 l1 l3 l5 l7 l8 l9 μ = some z) (hk : (Sum.elim (fun s : Nat × Nat × Int64 × Int64 × Int32 × Int32 × Int32 × MS => WW X D cy b r μ' 12 0 0 9 [(0, .ref (b + s.1)), (1, .ref (b + s.2.1)), (3, .long s.2.2.1), (5, .long s.2.2.2.1), (7, .int s.2.2.2.2.1), (8, .int s.2.2.2.2.2.1), (9, .int s.2.2.2.2.2.2.1)] [] s.2.2.2.2.2.2.2) (fun z : Int32 × MS => r = some (.int z.1) ∧ μ' = z.2)) z) : WW X D cy b r μ' 12 0 0 9 [(0, .ref (b + l0)), (1, .ref (b + l1)), (3, .long l3), (5, .long l5), (7, .int l7), (8, .int l8), (9, .int l9)] [] μ := by
  unfold f_X2_restOfPhaseCode_9_b at hf
  refine r_iload hB 6 rfl (by decide +kernel : decode cX2_restOfPhaseCode 9 = .ok (.iload 9, 2)) ?_
  refine r_aload_n hB 1 rfl (by decide +kernel : decode cX2_restOfPhaseCode 11 = .ok (.aload_n 1, 1)) rfl ?_
  refine r_gI hB cf6 6 (by decide) (own := "PulseRemote$Decoder") rfl (Or.inr ⟨_, k_83⟩) (by decide +kernel) (by decide +kernel : decode cX2_restOfPhaseCode 12 = .ok (.getfield 91, 3)) hf (fun x12 hf => ?_)
  refine r_icmp_ge hB (tgt := 120) (by decide +kernel : decode cX2_restOfPhaseCode 15 = .ok (.if_icmp .ge 105, 3)) (by decide) hf (fun _ hf => ?_) (fun _ hf => ?_)
  · obtain ⟨_, hx0, rfl⟩ := xr_inv hf
    exact WW.sub [5] rfl (t_X2_restOfPhaseCode_120 hB hx0 hk)
  · refine r_iload hB 6 rfl (by decide +kernel : decode cX2_restOfPhaseCode 18 = .ok (.iload 9, 2)) ?_
    refine r_bipush hB (v := 16) (by decide +kernel : decode cX2_restOfPhaseCode 20 = .ok (.bipush 16, 2)) (by decide +kernel) ?_
    refine r_icmp_ge hB (tgt := 120) (by decide +kernel : decode cX2_restOfPhaseCode 22 = .ok (.if_icmp .ge 98, 3)) (by decide) hf (fun _ hf => ?_) (fun _ hf => ?_)
    · obtain ⟨_, hx0, rfl⟩ := xr_inv hf
      exact WW.sub [5] rfl (t_X2_restOfPhaseCode_120 hB hx0 hk)
    · refine r_iload hB 4 rfl (by decide +kernel : decode cX2_restOfPhaseCode 25 = .ok (.iload 7, 2)) ?_
      refine r_iconst hB (v := 2) (by decide +kernel : decode cX2_restOfPhaseCode 27 = .ok (.iconst 2, 1)) (by decide +kernel) ?_
      refine r_irem hB (by decide +kernel : decode cX2_restOfPhaseCode 28 = .ok (.irem, 1)) hf (fun v28 hf => ?_)
      refine r_if_ne hB (tgt := 36) (by decide +kernel : decode cX2_restOfPhaseCode 29 = .ok (.ifCond .ne 7, 3)) (by decide) hf (fun _ hf => ?_) (fun _ hf => ?_)
      · refine r_iconst hB (v := 1) (by decide +kernel : decode cX2_restOfPhaseCode 32 = .ok (.iconst 1, 1)) (by decide +kernel) ?_
        refine r_goto hB (tgt := 37) (by decide +kernel : decode cX2_restOfPhaseCode 33 = .ok (.goto 4, 3)) (by decide) ?_
        exact WW.sub [0, 1, 2, 3, 4, 5, 6] rfl (t_X2_restOfPhaseCode_37 hB hf hk)
      · refine r_iconst hB (v := 0) (by decide +kernel : decode cX2_restOfPhaseCode 36 = .ok (.iconst 0, 1)) (by decide +kernel) ?_
        exact WW.sub [0, 1, 2, 3, 4, 5, 6] rfl (t_X2_restOfPhaseCode_37 hB hf hk)
set_option maxHeartbeats 4000000 in
set_option maxRecDepth 100000 in
theorem t_X2_restOfPhaseCode_9 {X : BX} {D : va_G} {cy : Nat → ClassId} {b : Nat} {r : Option Value} {μ' : MS} (hB : BB X D cy b yX2_restOfPhaseCode cX2_restOfPhaseCode 12 (some .int) rmX2_restOfPhaseCode) {l0 : Nat} {l1 : Nat} {l3 : Int64} {l5 : Int64} {l7 : Int32} {l8 : Int32} {l9 : Int32} {μ : MS} {z : (Int32 × MS)} (hf : f_X2_restOfPhaseCode_9 l0 l1 l3 l5 l7 l8 l9 μ = some z) (hk : (fun z : Int32 × MS => r = some (.int z.1) ∧ μ' = z.2) z) : WW X D cy b r μ' 12 0 0 9 [(0, .ref (b + l0)), (1, .ref (b + l1)), (3, .long l3), (5, .long l5), (7, .int l7), (8, .int l8), (9, .int l9)] [] μ :=
  lp_ind (P := fun s : Nat × Nat × Int64 × Int64 × Int32 × Int32 × Int32 × MS => WW X D cy b r μ' 12 0 0 9 [(0, .ref (b + s.1)), (1, .ref (b + s.2.1)), (3, .long s.2.2.1), (5, .long s.2.2.2.1), (7, .int s.2.2.2.2.1), (8, .int s.2.2.2.2.2.1), (9, .int s.2.2.2.2.2.2.1)] [] s.2.2.2.2.2.2.2) (Q := (fun z : Int32 × MS => r = some (.int z.1) ∧ μ' = z.2)) (fun s z hz hk => t_X2_restOfPhaseCode_9_b hB hz hk) (l0, l1, l3, l5, l7, l8, l9, μ) z hf hk
set_option maxHeartbeats 4000000 in
set_option maxRecDepth 100000 in
theorem t_X2_restOfPhaseCode_0 {X : BX} {D : va_G} {cy : Nat → ClassId} {b : Nat} {r : Option Value} {μ' : MS} (hB : BB X D cy b yX2_restOfPhaseCode cX2_restOfPhaseCode 12 (some .int) rmX2_restOfPhaseCode) {l0 : Nat} {l1 : Nat} {l2 : Int32} {l3 : Int64} {l5 : Int64} {μ : MS} {z : (Int32 × MS)} (hf : f_X2_restOfPhaseCode l0 l1 l2 l3 l5 μ = some z) (hk : (fun z : Int32 × MS => r = some (.int z.1) ∧ μ' = z.2) z) : WW X D cy b r μ' 12 0 0 0 [(0, .ref (b + l0)), (1, .ref (b + l1)), (2, .int l2), (3, .long l3), (5, .long l5)] [] μ := by
  unfold f_X2_restOfPhaseCode at hf
  refine r_iload_n hB 2 rfl (by decide +kernel : decode cX2_restOfPhaseCode 0 = .ok (.iload_n 2, 1)) rfl ?_
  refine r_istore hB (by decide +kernel : decode cX2_restOfPhaseCode 1 = .ok (.istore 7, 2)) (by decide) rfl ?_
  refine ww_lv (lv' := [(7, .int l2), (0, .ref (b + l0)), (1, .ref (b + l1)), (2, .int l2), (3, .long l3), (5, .long l5)]) rfl ?_
  refine r_iconst hB (v := 0) (by decide +kernel : decode cX2_restOfPhaseCode 3 = .ok (.iconst 0, 1)) (by decide +kernel) ?_
  refine r_istore hB (by decide +kernel : decode cX2_restOfPhaseCode 4 = .ok (.istore 8, 2)) (by decide) rfl ?_
  refine ww_lv (lv' := [(8, .int 0), (7, .int l2), (0, .ref (b + l0)), (1, .ref (b + l1)), (2, .int l2), (3, .long l3), (5, .long l5)]) rfl ?_
  refine r_iconst hB (v := 1) (by decide +kernel : decode cX2_restOfPhaseCode 6 = .ok (.iconst 1, 1)) (by decide +kernel) ?_
  refine r_istore hB (by decide +kernel : decode cX2_restOfPhaseCode 7 = .ok (.istore 9, 2)) (by decide) rfl ?_
  refine ww_lv (lv' := [(9, .int 1), (8, .int 0), (7, .int l2), (0, .ref (b + l0)), (1, .ref (b + l1)), (2, .int l2), (3, .long l3), (5, .long l5)]) rfl ?_
  exact WW.sub [3, 4, 6, 7, 2, 1, 0] rfl (t_X2_restOfPhaseCode_9 hB hf hk)
theorem m_X2_restOfPhaseCode (l : Launch) (D : va_G) (cy : Nat → ClassId) (b : Nat) {l0 : Nat} {l1 : Nat} {l2 : Int32} {l3 : Int64} {l5 : Int64} {μ : MS} {z : Int32 × MS} (hf : f_X2_restOfPhaseCode l0 l1 l2 l3 l5 μ = some z) : Met l yX2_restOfPhaseCode (.code yX2_restOfPhaseCode cX2_restOfPhaseCode 12 (some .int) :: GW) rmX2_restOfPhaseCode (Pw D cy b [.ref (b + l0), .ref (b + l1), .int l2, .long l3, .long l5] μ) (Qw D cy b (some (.int z.1)) (z.2)) rmX2_restOfPhaseCode.cells rmX2_restOfPhaseCode.slots (fun q => b ≤ q) :=
  met_of (by decide) (Nat.le_of_ble_eq_true rfl) (fun X hB _ => (t_X2_restOfPhaseCode_0 hB hf ⟨rfl, rfl⟩))
-- PulseRemote$Decoder.phaseCode(LPulseRemote$Protocol;)I
set_option maxHeartbeats 4000000 in
set_option maxRecDepth 100000 in
theorem t_X2_phaseCode_175 {X : BX} {D : va_G} {cy : Nat → ClassId} {b : Nat} {r : Option Value} {μ' : MS} (hB : BB X D cy b yX2_phaseCode cX2_phaseCode 11 (some .int) rmX2_phaseCode) {l0 : Nat} {l1 : Nat} {l2 : Int64} {l4 : Int64} {l6 : Int64} {μ : MS} {z : (Int32 × MS)} (hf : f_X2_phaseCode_175 l0 l1 l2 l4 l6 μ = some z) (hk : (fun z : Int32 × MS => r = some (.int z.1) ∧ μ' = z.2) z) : WW X D cy b r μ' 11 0 0 175 [(0, .ref (b + l0)), (1, .ref (b + l1)), (2, .long l2), (4, .long l4), (6, .long l6)] [] μ := by
  unfold f_X2_phaseCode_175 at hf
  refine r_aload_n hB 0 rfl (by decide +kernel : decode cX2_phaseCode 175 = .ok (.aload_n 0, 1)) rfl ?_
  refine r_iconst hB (v := 1) (by decide +kernel : decode cX2_phaseCode 176 = .ok (.iconst 1, 1)) (by decide +kernel) ?_
  refine r_aload_n hB 1 rfl (by decide +kernel : decode cX2_phaseCode 177 = .ok (.aload_n 1, 1)) rfl ?_
  refine r_gI hB cf6 2 (by decide) (own := "PulseRemote$Decoder") rfl (Or.inr ⟨_, k_71⟩) (by decide +kernel) (by decide +kernel : decode cX2_phaseCode 178 = .ok (.getfield 81, 3)) hf (fun x178 hf => ?_)
  refine r_cVi hB [.int 1, .int x178] [] cf2 (own := "PulseRemote$Decoder") rfl cmX2_fits imX2_fits (Or.inl k_545) (by decide) rfl rfl rfl (Nat.le_of_ble_eq_true rfl) (by decide +kernel : decode cX2_phaseCode 181 = .ok (.invokevirtual 77, 3)) (fun z hz => m_X2_fits _ _ _ _ hz) rfl hf (fun z181 hf => ?_)
  refine r_if_eq hB (tgt := 225) (by decide +kernel : decode cX2_phaseCode 184 = .ok (.ifCond .eq 41, 3)) (by decide) hf (fun _ hf => ?_) (fun _ hf => ?_)
  · refine r_bipush hB (v := (-9)) (by decide +kernel : decode cX2_phaseCode 225 = .ok (.bipush (-9), 2)) (by decide +kernel) ?_
    obtain rfl := Option.some.inj hf
    obtain ⟨rfl, rfl⟩ := hk
    exact r_iret hB (by decide +kernel : decode cX2_phaseCode 227 = .ok (.ireturn, 1))
  · refine r_lload_n hB 2 rfl (by decide +kernel : decode cX2_phaseCode 187 = .ok (.lload_n 2, 1)) rfl ?_
    refine r_iconst hB (v := 2) (by decide +kernel : decode cX2_phaseCode 188 = .ok (.iconst 2, 1)) (by decide +kernel) ?_
    refine r_cSi hB [.long l2, .int 2] [] (own := "PulseRemote$Decoder") rfl cmX2_isIn smX2_isIn (Or.inl ⟨rfl, k_557⟩) (by decide) rfl rfl rfl (Nat.le_of_ble_eq_true rfl) (by decide +kernel : decode cX2_phaseCode 189 = .ok (.invokestatic 112, 3)) (fun z hz => m_X2_isIn _ _ _ _ hz) rfl hf (fun z189 hf => ?_)
    refine r_if_eq hB (tgt := 225) (by decide +kernel : decode cX2_phaseCode 192 = .ok (.ifCond .eq 33, 3)) (by decide) hf (fun _ hf => ?_) (fun _ hf => ?_)
    · refine r_bipush hB (v := (-9)) (by decide +kernel : decode cX2_phaseCode 225 = .ok (.bipush (-9), 2)) (by decide +kernel) ?_
      obtain rfl := Option.some.inj hf
      obtain ⟨rfl, rfl⟩ := hk
      exact r_iret hB (by decide +kernel : decode cX2_phaseCode 227 = .ok (.ireturn, 1))
    · refine r_aload_n hB 0 rfl (by decide +kernel : decode cX2_phaseCode 195 = .ok (.aload_n 0, 1)) rfl ?_
      refine r_gR hB cf2 5 (by decide) (own := "PulseRemote$Decoder") rfl (Or.inl k_236) (by decide +kernel) (by decide +kernel : decode cX2_phaseCode 196 = .ok (.getfield 22, 3)) hf (fun x196 hf => ?_)
      refine r_iconst hB (v := 1) (by decide +kernel : decode cX2_phaseCode 199 = .ok (.iconst 1, 1)) (by decide +kernel) ?_
      refine r_lald hB (by decide +kernel : decode cX2_phaseCode 200 = .ok (.laload, 1)) hf (fun x200 hf => ?_)
      refine r_iconst hB (v := 3) (by decide +kernel : decode cX2_phaseCode 201 = .ok (.iconst 3, 1)) (by decide +kernel) ?_
      refine r_cSi hB [.long x200, .int 3] [] (own := "PulseRemote$Decoder") rfl cmX2_isIn smX2_isIn (Or.inl ⟨rfl, k_557⟩) (by decide) rfl rfl rfl (Nat.le_of_ble_eq_true rfl) (by decide +kernel : decode cX2_phaseCode 202 = .ok (.invokestatic 112, 3)) (fun z hz => m_X2_isIn _ _ _ _ hz) rfl hf (fun z202 hf => ?_)
      refine r_if_eq hB (tgt := 225) (by decide +kernel : decode cX2_phaseCode 205 = .ok (.ifCond .eq 20, 3)) (by decide) hf (fun _ hf => ?_) (fun _ hf => ?_)
      · refine r_bipush hB (v := (-9)) (by decide +kernel : decode cX2_phaseCode 225 = .ok (.bipush (-9), 2)) (by decide +kernel) ?_
        obtain rfl := Option.some.inj hf
        obtain ⟨rfl, rfl⟩ := hk
        exact r_iret hB (by decide +kernel : decode cX2_phaseCode 227 = .ok (.ireturn, 1))
      · refine r_aload_n hB 1 rfl (by decide +kernel : decode cX2_phaseCode 208 = .ok (.aload_n 1, 1)) rfl ?_
        refine r_iconst hB (v := 0) (by decide +kernel : decode cX2_phaseCode 209 = .ok (.iconst 0, 1)) (by decide +kernel) ?_
        refine r_cVi hB [.int 0] [] cf6 (own := "PulseRemote$Decoder") rfl cmX6_maskAt imX6_maskAt (Or.inl k_564) (by decide) rfl rfl rfl (Nat.le_of_ble_eq_true rfl) (by decide +kernel : decode cX2_phaseCode 210 = .ok (.invokevirtual 100, 3)) (fun z hz => m_X6_maskAt _ _ _ _ hz) rfl hf (fun z210 hf => ?_)
        refine r_aload_n hB 0 rfl (by decide +kernel : decode cX2_phaseCode 213 = .ok (.aload_n 0, 1)) rfl ?_
        refine r_aload_n hB 1 rfl (by decide +kernel : decode cX2_phaseCode 214 = .ok (.aload_n 1, 1)) rfl ?_
        refine r_iconst hB (v := 3) (by decide +kernel : decode cX2_phaseCode 215 = .ok (.iconst 3, 1)) (by decide +kernel) ?_
        refine r_lload hB 4 rfl (by decide +kernel : decode cX2_phaseCode 216 = .ok (.lload 6, 2)) ?_
        refine r_lload hB 3 rfl (by decide +kernel : decode cX2_phaseCode 218 = .ok (.lload 4, 2)) ?_
        refine r_cVi hB [.ref (b + l1), .int 3, .long l6, .long l4] [.int z210.1] cf2 (own := "PulseRemote$Decoder") rfl cmX2_restOfPhaseCode imX2_restOfPhaseCode (Or.inl k_560) (by decide) rfl rfl rfl (Nat.le_of_ble_eq_true rfl) (by decide +kernel : decode cX2_phaseCode 220 = .ok (.invokevirtual 116, 3)) (fun z hz => m_X2_restOfPhaseCode _ _ _ _ hz) rfl hf (fun z220 hf => ?_)
        refine r_ior hB (by decide +kernel : decode cX2_phaseCode 223 = .ok (.ior, 1)) ?_
        obtain rfl := Option.some.inj hf
        obtain ⟨rfl, rfl⟩ := hk
        exact r_iret hB (by decide +kernel : decode cX2_phaseCode 224 = .ok (.ireturn, 1))
set_option maxHeartbeats 4000000 in
set_option maxRecDepth 100000 in
theorem t_X2_phaseCode_134 {X : BX} {D : va_G} {cy : Nat → ClassId} {b : Nat} {r : Option Value} {μ' : MS} (hB : BB X D cy b yX2_phaseCode cX2_phaseCode 11 (some .int) rmX2_phaseCode) {l0 : Nat} {l1 : Nat} {l2 : Int64} {l4 : Int64} {l6 : Int64} {μ : MS} {z : (Int32 × MS)} (hf : f_X2_phaseCode_134 l0 l1 l2 l4 l6 μ = some z) (hk : (fun z : Int32 × MS => r = some (.int z.1) ∧ μ' = z.2) z) : WW X D cy b r μ' 11 0 0 134 [(0, .ref (b + l0)), (1, .ref (b + l1)), (2, .long l2), (4, .long l4), (6, .long l6)] [] μ := by
  unfold f_X2_phaseCode_134 at hf
  refine r_aload_n hB 0 rfl (by decide +kernel : decode cX2_phaseCode 134 = .ok (.aload_n 0, 1)) rfl ?_
  refine r_iconst hB (v := 1) (by decide +kernel : decode cX2_phaseCode 135 = .ok (.iconst 1, 1)) (by decide +kernel) ?_
  refine r_aload_n hB 1 rfl (by decide +kernel : decode cX2_phaseCode 136 = .ok (.aload_n 1, 1)) rfl ?_
  refine r_gI hB cf6 2 (by decide) (own := "PulseRemote$Decoder") rfl (Or.inr ⟨_, k_71⟩) (by decide +kernel) (by decide +kernel : decode cX2_phaseCode 137 = .ok (.getfield 81, 3)) hf (fun x137 hf => ?_)
  refine r_aload_n hB 1 rfl (by decide +kernel : decode cX2_phaseCode 140 = .ok (.aload_n 1, 1)) rfl ?_
  refine r_gI hB cf6 3 (by decide) (own := "PulseRemote$Decoder") rfl (Or.inr ⟨_, k_74⟩) (by decide +kernel) (by decide +kernel : decode cX2_phaseCode 141 = .ok (.getfield 84, 3)) hf (fun x141 hf => ?_)
  refine r_iadd hB (by decide +kernel : decode cX2_phaseCode 144 = .ok (.iadd, 1)) ?_
  refine r_cVi hB [.int 1, .int (x137 + x141)] [] cf2 (own := "PulseRemote$Decoder") rfl cmX2_fits imX2_fits (Or.inl k_545) (by decide) rfl rfl rfl (Nat.le_of_ble_eq_true rfl) (by decide +kernel : decode cX2_phaseCode 145 = .ok (.invokevirtual 77, 3)) (fun z hz => m_X2_fits _ _ _ _ hz) rfl hf (fun z145 hf => ?_)
  refine r_if_eq hB (tgt := 175) (by decide +kernel : decode cX2_phaseCode 148 = .ok (.ifCond .eq 27, 3)) (by decide) hf (fun _ hf => ?_) (fun _ hf => ?_)
  · exact WW.sub [0, 1, 2, 3, 4] rfl (t_X2_phaseCode_175 hB hf hk)
  · refine r_aload_n hB 0 rfl (by decide +kernel : decode cX2_phaseCode 151 = .ok (.aload_n 0, 1)) rfl ?_
    refine r_gR hB cf2 5 (by decide) (own := "PulseRemote$Decoder") rfl (Or.inl k_236) (by decide +kernel) (by decide +kernel : decode cX2_phaseCode 152 = .ok (.getfield 22, 3)) hf (fun x152 hf => ?_)
    refine r_iconst hB (v := 1) (by decide +kernel : decode cX2_phaseCode 155 = .ok (.iconst 1, 1)) (by decide +kernel) ?_
    refine r_lald hB (by decide +kernel : decode cX2_phaseCode 156 = .ok (.laload, 1)) hf (fun x156 hf => ?_)
    refine r_iconst hB (v := 2) (by decide +kernel : decode cX2_phaseCode 157 = .ok (.iconst 2, 1)) (by decide +kernel) ?_
    refine r_cSi hB [.long x156, .int 2] [] (own := "PulseRemote$Decoder") rfl cmX2_isIn smX2_isIn (Or.inl ⟨rfl, k_557⟩) (by decide) rfl rfl rfl (Nat.le_of_ble_eq_true rfl) (by decide +kernel : decode cX2_phaseCode 158 = .ok (.invokestatic 112, 3)) (fun z hz => m_X2_isIn _ _ _ _ hz) rfl hf (fun z158 hf => ?_)
    refine r_if_eq hB (tgt := 175) (by decide +kernel : decode cX2_phaseCode 161 = .ok (.ifCond .eq 14, 3)) (by decide) hf (fun _ hf => ?_) (fun _ hf => ?_)
    · exact WW.sub [0, 1, 2, 3, 4] rfl (t_X2_phaseCode_175 hB hf hk)
    · refine r_aload_n hB 0 rfl (by decide +kernel : decode cX2_phaseCode 164 = .ok (.aload_n 0, 1)) rfl ?_
      refine r_aload_n hB 1 rfl (by decide +kernel : decode cX2_phaseCode 165 = .ok (.aload_n 1, 1)) rfl ?_
      refine r_iconst hB (v := 2) (by decide +kernel : decode cX2_phaseCode 166 = .ok (.iconst 2, 1)) (by decide +kernel) ?_
      refine r_lload hB 4 rfl (by decide +kernel : decode cX2_phaseCode 167 = .ok (.lload 6, 2)) ?_
      refine r_lload hB 3 rfl (by decide +kernel : decode cX2_phaseCode 169 = .ok (.lload 4, 2)) ?_
      refine r_cVi hB [.ref (b + l1), .int 2, .long l6, .long l4] [] cf2 (own := "PulseRemote$Decoder") rfl cmX2_restOfPhaseCode imX2_restOfPhaseCode (Or.inl k_560) (by decide) rfl rfl rfl (Nat.le_of_ble_eq_true rfl) (by decide +kernel : decode cX2_phaseCode 171 = .ok (.invokevirtual 116, 3)) (fun z hz => m_X2_restOfPhaseCode _ _ _ _ hz) rfl hf (fun z171 hf => ?_)
      obtain rfl := Option.some.inj hf
      obtain ⟨rfl, rfl⟩ := hk
      exact r_iret hB (by decide +kernel : decode cX2_phaseCode 174 = .ok (.ireturn, 1))
set_option maxHeartbeats 4000000 in
set_option maxRecDepth 100000 in
theorem t_X2_phaseCode_96_b {X : BX} {D : va_G} {cy : Nat → ClassId} {b : Nat} {r : Option Value} {μ' : MS} (hB : BB X D cy b yX2_phaseCode cX2_phaseCode 11 (some .int) rmX2_phaseCode) {l0 : Nat} {l1 : Nat} {l2 : Int64} {l4 : Int64} {l6 : Int64} {l8 : Int64} {l10 : Int32} {μ : MS} {z : ((Nat × Nat × Int64 × Int64 × Int64 × Int64 × Int32 × MS) ⊕ (Int32 × MS))} (hf : f_X2_phaseCode_96_b l0 l1 l2 l4 l6 l8 l10 μ = some z) (hk : (Sum.elim (fun s : Nat × Nat × Int64 × Int64 × Int64 × Int64 × Int32 × MS => WW X D cy b r μ' 11 0 0 96 [(0, .ref (b + s.1)), (1, .ref (b + s.2.1)), (2, .long s.2.2.1), (4, .long s.2.2.2.1), (6, .long s.2.2.2.2.1), (8, .long s.2.2.2.2.2.1), (10, .int s.2.2.2.2.2.2.1)] [] s.2.2.2.2.2.2.2) (fun z : Int32 × MS => r = some (.int z.1) ∧ μ' = z.2)) z) : WW X D cy b r μ' 11 0 0 96 [(0, .ref (b + l0)), (1, .ref (b + l1)), (2, .long l2), (4, .long l4), (6, .long l6), (8, .long l8), (10, .int l10)] [] μ := by
  unfold f_X2_phaseCode_96_b at hf
  refine r_iload hB 6 rfl (by decide +kernel : decode cX2_phaseCode 96 = .ok (.iload 10, 2)) ?_
  refine r_iconst hB (v := 1) (by decide +kernel : decode cX2_phaseCode 98 = .ok (.iconst 1, 1)) (by decide +kernel) ?_
  refine r_icmp_lt hB (tgt := 134) (by decide +kernel : decode cX2_phaseCode 99 = .ok (.if_icmp .lt 35, 3)) (by decide) hf (fun _ hf => ?_) (fun _ hf => ?_)
  · obtain ⟨_, hx0, rfl⟩ := xr_inv hf
    exact WW.sub [0, 1, 2, 3, 4] rfl (t_X2_phaseCode_134 hB hx0 hk)
  · refine r_aload_n hB 0 rfl (by decide +kernel : decode cX2_phaseCode 102 = .ok (.aload_n 0, 1)) rfl ?_
    refine r_gR hB cf2 5 (by decide) (own := "PulseRemote$Decoder") rfl (Or.inl k_236) (by decide +kernel) (by decide +kernel : decode cX2_phaseCode 103 = .ok (.getfield 22, 3)) hf (fun x103 hf => ?_)
    refine r_iload hB 6 rfl (by decide +kernel : decode cX2_phaseCode 106 = .ok (.iload 10, 2)) ?_
    refine r_lload hB 5 rfl (by decide +kernel : decode cX2_phaseCode 108 = .ok (.lload 8, 2)) ?_
    refine r_last hB (by decide +kernel : decode cX2_phaseCode 110 = .ok (.lastore, 1)) hf (fun m110 hf => ?_)
    refine r_lload hB 5 rfl (by decide +kernel : decode cX2_phaseCode 111 = .ok (.lload 8, 2)) ?_
    refine r_iconst hB (v := 1) (by decide +kernel : decode cX2_phaseCode 113 = .ok (.iconst 1, 1)) (by decide +kernel) ?_
    refine r_lushr hB (by decide +kernel : decode cX2_phaseCode 114 = .ok (.lushr, 1)) ?_
    refine r_lload hB 3 rfl (by decide +kernel : decode cX2_phaseCode 115 = .ok (.lload 4, 2)) ?_
    refine r_land hB (by decide +kernel : decode cX2_phaseCode 117 = .ok (.land, 1)) ?_
    refine r_lload hB 5 rfl (by decide +kernel : decode cX2_phaseCode 118 = .ok (.lload 8, 2)) ?_
    refine r_iconst hB (v := 2) (by decide +kernel : decode cX2_phaseCode 120 = .ok (.iconst 2, 1)) (by decide +kernel) ?_
    refine r_lushr hB (by decide +kernel : decode cX2_phaseCode 121 = .ok (.lushr, 1)) ?_
    refine r_lload hB 4 rfl (by decide +kernel : decode cX2_phaseCode 122 = .ok (.lload 6, 2)) ?_
    refine r_land hB (by decide +kernel : decode cX2_phaseCode 124 = .ok (.land, 1)) ?_
    refine r_lor hB (by decide +kernel : decode cX2_phaseCode 125 = .ok (.lor, 1)) ?_
    refine r_nameL hf (fun v126 hf => ?_)
    refine r_lstore hB (by decide +kernel : decode cX2_phaseCode 126 = .ok (.lstore 8, 2)) (by decide) rfl ?_
    refine ww_lv (lv' := [(8, .long v126), (0, .ref (b + l0)), (1, .ref (b + l1)), (2, .long l2), (4, .long l4), (6, .long l6), (10, .int l10)]) rfl ?_
    refine r_iincB hB 6 rfl (by decide +kernel : decode cX2_phaseCode 128 = .ok (.iinc 10 (-1), 3)) (w := (-1)) (by decide +kernel) (by decide) hf (fun v128 hf => ?_)
    refine ww_lv (lv' := [(10, .int v128), (8, .long v126), (0, .ref (b + l0)), (1, .ref (b + l1)), (2, .long l2), (4, .long l4), (6, .long l6)]) rfl ?_
    refine r_goto hB (tgt := 96) (by decide +kernel : decode cX2_phaseCode 131 = .ok (.goto (-35), 3)) (by decide) ?_
    obtain rfl := Option.some.inj hf
    exact WW.sub [2, 3, 4, 5, 6, 1, 0] rfl hk
set_option maxHeartbeats 4000000 in
set_option maxRecDepth 100000 in
theorem t_X2_phaseCode_96 {X : BX} {D : va_G} {cy : Nat → ClassId} {b : Nat} {r : Option Value} {μ' : MS} (hB : BB X D cy b yX2_phaseCode cX2_phaseCode 11 (some .int) rmX2_phaseCode) {l0 : Nat} {l1 : Nat} {l2 : Int64} {l4 : Int64} {l6 : Int64} {l8 : Int64} {l10 : Int32} {μ : MS} {z : (Int32 × MS)} (hf : f_X2_phaseCode_96 l0 l1 l2 l4 l6 l8 l10 μ = some z) (hk : (fun z : Int32 × MS => r = some (.int z.1) ∧ μ' = z.2) z) : WW X D cy b r μ' 11 0 0 96 [(0, .ref (b + l0)), (1, .ref (b + l1)), (2, .long l2), (4, .long l4), (6, .long l6), (8, .long l8), (10, .int l10)] [] μ :=
  lp_ind (P := fun s : Nat × Nat × Int64 × Int64 × Int64 × Int64 × Int32 × MS => WW X D cy b r μ' 11 0 0 96 [(0, .ref (b + s.1)), (1, .ref (b + s.2.1)), (2, .long s.2.2.1), (4, .long s.2.2.2.1), (6, .long s.2.2.2.2.1), (8, .long s.2.2.2.2.2.1), (10, .int s.2.2.2.2.2.2.1)] [] s.2.2.2.2.2.2.2) (Q := (fun z : Int32 × MS => r = some (.int z.1) ∧ μ' = z.2)) (fun s z hz hk => t_X2_phaseCode_96_b hB hz hk) (l0, l1, l2, l4, l6, l8, l10, μ) z hf hk
set_option maxHeartbeats 4000000 in
set_option maxRecDepth 100000 in
theorem t_X2_phaseCode_0 {X : BX} {D : va_G} {cy : Nat → ClassId} {b : Nat} {r : Option Value} {μ' : MS} (hB : BB X D cy b yX2_phaseCode cX2_phaseCode 11 (some .int) rmX2_phaseCode) {l0 : Nat} {l1 : Nat} {μ : MS} {z : (Int32 × MS)} (hf : f_X2_phaseCode l0 l1 μ = some z) (hk : (fun z : Int32 × MS => r = some (.int z.1) ∧ μ' = z.2) z) : WW X D cy b r μ' 11 0 0 0 [(0, .ref (b + l0)), (1, .ref (b + l1))] [] μ := by
  unfold f_X2_phaseCode at hf
  refine r_aload_n hB 0 rfl (by decide +kernel : decode cX2_phaseCode 0 = .ok (.aload_n 0, 1)) rfl ?_
  refine r_gI hB cf2 3 (by decide) (own := "PulseRemote$Decoder") rfl (Or.inl k_234) (by decide +kernel) (by decide +kernel : decode cX2_phaseCode 1 = .ok (.getfield 64, 3)) hf (fun x1 hf => ?_)
  refine r_iconst hB (v := 3) (by decide +kernel : decode cX2_phaseCode 4 = .ok (.iconst 3, 1)) (by decide +kernel) ?_
  refine r_icmp_lt hB (tgt := 35) (by decide +kernel : decode cX2_phaseCode 5 = .ok (.if_icmp .lt 30, 3)) (by decide) hf (fun _ hf => ?_) (fun _ hf => ?_)
  · refine r_bipush hB (v := (-9)) (by decide +kernel : decode cX2_phaseCode 35 = .ok (.bipush (-9), 2)) (by decide +kernel) ?_
    obtain rfl := Option.some.inj hf
    obtain ⟨rfl, rfl⟩ := hk
    exact r_iret hB (by decide +kernel : decode cX2_phaseCode 37 = .ok (.ireturn, 1))
  · refine r_aload_n hB 0 rfl (by decide +kernel : decode cX2_phaseCode 8 = .ok (.aload_n 0, 1)) rfl ?_
    refine r_gI hB cf2 3 (by decide) (own := "PulseRemote$Decoder") rfl (Or.inl k_234) (by decide +kernel) (by decide +kernel : decode cX2_phaseCode 9 = .ok (.getfield 64, 3)) hf (fun x9 hf => ?_)
    refine r_iconst hB (v := 2) (by decide +kernel : decode cX2_phaseCode 12 = .ok (.iconst 2, 1)) (by decide +kernel) ?_
    refine r_aload_n hB 1 rfl (by decide +kernel : decode cX2_phaseCode 13 = .ok (.aload_n 1, 1)) rfl ?_
    refine r_gI hB cf6 6 (by decide) (own := "PulseRemote$Decoder") rfl (Or.inr ⟨_, k_83⟩) (by decide +kernel) (by decide +kernel : decode cX2_phaseCode 14 = .ok (.getfield 91, 3)) hf (fun x14 hf => ?_)
    refine r_imul hB (by decide +kernel : decode cX2_phaseCode 17 = .ok (.imul, 1)) ?_
    refine r_iconst hB (v := 1) (by decide +kernel : decode cX2_phaseCode 18 = .ok (.iconst 1, 1)) (by decide +kernel) ?_
    refine r_iadd hB (by decide +kernel : decode cX2_phaseCode 19 = .ok (.iadd, 1)) ?_
    refine r_icmp_gt hB (tgt := 35) (by decide +kernel : decode cX2_phaseCode 20 = .ok (.if_icmp .gt 15, 3)) (by decide) hf (fun _ hf => ?_) (fun _ hf => ?_)
    · refine r_bipush hB (v := (-9)) (by decide +kernel : decode cX2_phaseCode 35 = .ok (.bipush (-9), 2)) (by decide +kernel) ?_
      obtain rfl := Option.some.inj hf
      obtain ⟨rfl, rfl⟩ := hk
      exact r_iret hB (by decide +kernel : decode cX2_phaseCode 37 = .ok (.ireturn, 1))
    · refine r_aload_n hB 0 rfl (by decide +kernel : decode cX2_phaseCode 23 = .ok (.aload_n 0, 1)) rfl ?_
      refine r_iconst hB (v := 0) (by decide +kernel : decode cX2_phaseCode 24 = .ok (.iconst 0, 1)) (by decide +kernel) ?_
      refine r_aload_n hB 1 rfl (by decide +kernel : decode cX2_phaseCode 25 = .ok (.aload_n 1, 1)) rfl ?_
      refine r_gI hB cf6 1 (by decide) (own := "PulseRemote$Decoder") rfl (Or.inr ⟨_, k_68⟩) (by decide +kernel) (by decide +kernel : decode cX2_phaseCode 26 = .ok (.getfield 74, 3)) hf (fun x26 hf => ?_)
      refine r_cVi hB [.int 0, .int x26] [] cf2 (own := "PulseRemote$Decoder") rfl cmX2_fits imX2_fits (Or.inl k_545) (by decide) rfl rfl rfl (Nat.le_of_ble_eq_true rfl) (by decide +kernel : decode cX2_phaseCode 29 = .ok (.invokevirtual 77, 3)) (fun z hz => m_X2_fits _ _ _ _ hz) rfl hf (fun z29 hf => ?_)
      refine r_if_ne hB (tgt := 38) (by decide +kernel : decode cX2_phaseCode 32 = .ok (.ifCond .ne 6, 3)) (by decide) hf (fun _ hf => ?_) (fun _ hf => ?_)
      · refine r_bipush hB (v := (-9)) (by decide +kernel : decode cX2_phaseCode 35 = .ok (.bipush (-9), 2)) (by decide +kernel) ?_
        obtain rfl := Option.some.inj hf
        obtain ⟨rfl, rfl⟩ := hk
        exact r_iret hB (by decide +kernel : decode cX2_phaseCode 37 = .ok (.ireturn, 1))
      · refine r_aload_n hB 0 rfl (by decide +kernel : decode cX2_phaseCode 38 = .ok (.aload_n 0, 1)) rfl ?_
        refine r_aload_n hB 1 rfl (by decide +kernel : decode cX2_phaseCode 39 = .ok (.aload_n 1, 1)) rfl ?_
        refine r_gI hB cf6 3 (by decide) (own := "PulseRemote$Decoder") rfl (Or.inr ⟨_, k_74⟩) (by decide +kernel) (by decide +kernel : decode cX2_phaseCode 40 = .ok (.getfield 84, 3)) hf (fun x40 hf => ?_)
        refine r_cVl hB [.int x40] [] cf2 (own := "PulseRemote$Decoder") rfl cmX2_placesOf imX2_placesOf (Or.inl k_552) (by decide) rfl rfl rfl (Nat.le_of_ble_eq_true rfl) (by decide +kernel : decode cX2_phaseCode 43 = .ok (.invokevirtual 103, 3)) (fun z hz => m_X2_placesOf _ _ _ _ hz) rfl hf (fun z43 hf => ?_)
        refine r_lstore_n hB (by decide +kernel : decode cX2_phaseCode 46 = .ok (.lstore_n 2, 1)) rfl (by decide) rfl ?_
        refine ww_lv (lv' := [(2, .long z43.1), (0, .ref (b + l0)), (1, .ref (b + l1))]) rfl ?_
        refine r_aload_n hB 1 rfl (by decide +kernel : decode cX2_phaseCode 47 = .ok (.aload_n 0, 1)) rfl ?_
        refine r_iconst hB (v := 2) (by decide +kernel : decode cX2_phaseCode 48 = .ok (.iconst 2, 1)) (by decide +kernel) ?_
        refine r_aload_n hB 2 rfl (by decide +kernel : decode cX2_phaseCode 49 = .ok (.aload_n 1, 1)) rfl ?_
        refine r_gI hB cf6 3 (by decide) (own := "PulseRemote$Decoder") rfl (Or.inr ⟨_, k_74⟩) (by decide +kernel) (by decide +kernel : decode cX2_phaseCode 50 = .ok (.getfield 84, 3)) hf (fun x50 hf => ?_)
        refine r_imul hB (by decide +kernel : decode cX2_phaseCode 53 = .ok (.imul, 1)) ?_
        refine r_cVl hB [.int (2 * x50)] [] cf2 (own := "PulseRemote$Decoder") rfl cmX2_placesOf imX2_placesOf (Or.inl k_552) (by decide) rfl rfl rfl (Nat.le_of_ble_eq_true rfl) (by decide +kernel : decode cX2_phaseCode 54 = .ok (.invokevirtual 103, 3)) (fun z hz => m_X2_placesOf _ _ _ _ hz) rfl hf (fun z54 hf => ?_)
        refine r_lstore hB (by decide +kernel : decode cX2_phaseCode 57 = .ok (.lstore 4, 2)) (by decide) rfl ?_
        refine ww_lv (lv' := [(4, .long z54.1), (2, .long z43.1), (0, .ref (b + l0)), (1, .ref (b + l1))]) rfl ?_
        refine r_lload_n hB 1 rfl (by decide +kernel : decode cX2_phaseCode 59 = .ok (.lload_n 2, 1)) rfl ?_
        refine r_lload_n hB 1 rfl (by decide +kernel : decode cX2_phaseCode 60 = .ok (.lload_n 2, 1)) rfl ?_
        refine r_iconst hB (v := 1) (by decide +kernel : decode cX2_phaseCode 61 = .ok (.iconst 1, 1)) (by decide +kernel) ?_
        refine r_lushr hB (by decide +kernel : decode cX2_phaseCode 62 = .ok (.lushr, 1)) ?_
        refine r_land hB (by decide +kernel : decode cX2_phaseCode 63 = .ok (.land, 1)) ?_
        refine r_nameL hf (fun v64 hf => ?_)
        refine r_lstore hB (by decide +kernel : decode cX2_phaseCode 64 = .ok (.lstore 6, 2)) (by decide) rfl ?_
        refine ww_lv (lv' := [(6, .long v64), (4, .long z54.1), (2, .long z43.1), (0, .ref (b + l0)), (1, .ref (b + l1))]) rfl ?_
        refine r_lload_n hB 2 rfl (by decide +kernel : decode cX2_phaseCode 66 = .ok (.lload_n 2, 1)) rfl ?_
        refine r_lconst hB (v := 1) (by decide +kernel : decode cX2_phaseCode 67 = .ok (.lconst 1, 1)) (by decide +kernel) ?_
        refine r_aload_n hB 3 rfl (by decide +kernel : decode cX2_phaseCode 68 = .ok (.aload_n 0, 1)) rfl ?_
        refine r_gI hB cf2 3 (by decide) (own := "PulseRemote$Decoder") rfl (Or.inl k_234) (by decide +kernel) (by decide +kernel : decode cX2_phaseCode 69 = .ok (.getfield 64, 3)) hf (fun x69 hf => ?_)
        refine r_iconst hB (v := 1) (by decide +kernel : decode cX2_phaseCode 72 = .ok (.iconst 1, 1)) (by decide +kernel) ?_
        refine r_isub hB (by decide +kernel : decode cX2_phaseCode 73 = .ok (.isub, 1)) ?_
        refine r_lshl hB (by decide +kernel : decode cX2_phaseCode 74 = .ok (.lshl, 1)) ?_
        refine r_land hB (by decide +kernel : decode cX2_phaseCode 75 = .ok (.land, 1)) ?_
        refine r_lconst hB (v := 1) (by decide +kernel : decode cX2_phaseCode 76 = .ok (.lconst 1, 1)) (by decide +kernel) ?_
        refine r_aload_n hB 3 rfl (by decide +kernel : decode cX2_phaseCode 77 = .ok (.aload_n 0, 1)) rfl ?_
        refine r_gI hB cf2 3 (by decide) (own := "PulseRemote$Decoder") rfl (Or.inl k_234) (by decide +kernel) (by decide +kernel : decode cX2_phaseCode 78 = .ok (.getfield 64, 3)) hf (fun x78 hf => ?_)
        refine r_lshl hB (by decide +kernel : decode cX2_phaseCode 81 = .ok (.lshl, 1)) ?_
        refine r_lor hB (by decide +kernel : decode cX2_phaseCode 82 = .ok (.lor, 1)) ?_
        refine r_nameL hf (fun v83 hf => ?_)
        refine r_lstore hB (by decide +kernel : decode cX2_phaseCode 83 = .ok (.lstore 8, 2)) (by decide) rfl ?_
        refine ww_lv (lv' := [(8, .long v83), (6, .long v64), (4, .long z54.1), (2, .long z43.1), (0, .ref (b + l0)), (1, .ref (b + l1))]) rfl ?_
        refine r_aload_n hB 5 rfl (by decide +kernel : decode cX2_phaseCode 85 = .ok (.aload_n 1, 1)) rfl ?_
        refine r_gI hB cf6 6 (by decide) (own := "PulseRemote$Decoder") rfl (Or.inr ⟨_, k_83⟩) (by decide +kernel) (by decide +kernel : decode cX2_phaseCode 86 = .ok (.getfield 91, 3)) hf (fun x86 hf => ?_)
        refine r_bipush hB (v := 16) (by decide +kernel : decode cX2_phaseCode 89 = .ok (.bipush 16, 2)) (by decide +kernel) ?_
        refine r_min hB (own := "PulseRemote$Decoder") rfl k_556 k_478 k_34 k_479 (by decide +kernel : decode cX2_phaseCode 91 = .ok (.invokestatic 107, 3)) (by decide) (Nat.le_of_ble_eq_true rfl) ?_
        refine r_name hf (fun v94 hf => ?_)
        refine r_istore hB (by decide +kernel : decode cX2_phaseCode 94 = .ok (.istore 10, 2)) (by decide) rfl ?_
        refine ww_lv (lv' := [(10, .int v94), (8, .long v83), (6, .long v64), (4, .long z54.1), (2, .long z43.1), (0, .ref (b + l0)), (1, .ref (b + l1))]) rfl ?_
        exact WW.sub [5, 6, 4, 3, 2, 1, 0] rfl (t_X2_phaseCode_96 hB hf hk)
theorem m_X2_phaseCode (l : Launch) (D : va_G) (cy : Nat → ClassId) (b : Nat) {l0 : Nat} {l1 : Nat} {μ : MS} {z : Int32 × MS} (hf : f_X2_phaseCode l0 l1 μ = some z) : Met l yX2_phaseCode (.code yX2_phaseCode cX2_phaseCode 11 (some .int) :: GW) rmX2_phaseCode (Pw D cy b [.ref (b + l0), .ref (b + l1)] μ) (Qw D cy b (some (.int z.1)) (z.2)) rmX2_phaseCode.cells rmX2_phaseCode.slots (fun q => b ≤ q) :=
  met_of (by decide) (Nat.le_of_ble_eq_true rfl) (fun X hB _ => (t_X2_phaseCode_0 hB hf ⟨rfl, rfl⟩))
-- PulseRemote$Decoder.plainCode(LPulseRemote$Protocol;)I
set_option maxHeartbeats 4000000 in
set_option maxRecDepth 100000 in
theorem t_X2_plainCode_159 {X : BX} {D : va_G} {cy : Nat → ClassId} {b : Nat} {r : Option Value} {μ' : MS} (hB : BB X D cy b yX2_plainCode cX2_plainCode 6 (some .int) rmX2_plainCode) {l4 : Int32} {μ : MS} {z : (Int32 × MS)} (hf : f_X2_plainCode_159 l4 μ = some z) (hk : (fun z : Int32 × MS => r = some (.int z.1) ∧ μ' = z.2) z) : WW X D cy b r μ' 6 0 0 159 [(4, .int l4)] [] μ := by
  unfold f_X2_plainCode_159 at hf
  refine r_iload hB 0 rfl (by decide +kernel : decode cX2_plainCode 159 = .ok (.iload 4, 2)) ?_
  obtain rfl := Option.some.inj hf
  obtain ⟨rfl, rfl⟩ := hk
  exact r_iret hB (by decide +kernel : decode cX2_plainCode 161 = .ok (.ireturn, 1))
set_option maxHeartbeats 4000000 in
set_option maxRecDepth 100000 in
theorem t_X2_plainCode_135 {X : BX} {D : va_G} {cy : Nat → ClassId} {b : Nat} {r : Option Value} {μ' : MS} (hB : BB X D cy b yX2_plainCode cX2_plainCode 6 (some .int) rmX2_plainCode)  {μ : MS} {z : (Int32 × MS)} (hf : f_X2_plainCode_135  μ = some z) (hk : (fun z : Int32 × MS => r = some (.int z.1) ∧ μ' = z.2) z) : WW X D cy b r μ' 6 0 0 135 [] [] μ := by
  unfold f_X2_plainCode_135 at hf
  refine r_bipush hB (v := (-9)) (by decide +kernel : decode cX2_plainCode 135 = .ok (.bipush (-9), 2)) (by decide +kernel) ?_
  obtain rfl := Option.some.inj hf
  obtain ⟨rfl, rfl⟩ := hk
  exact r_iret hB (by decide +kernel : decode cX2_plainCode 137 = .ok (.ireturn, 1))
set_option maxHeartbeats 4000000 in
set_option maxRecDepth 100000 in
theorem t_X2_plainCode_153 {X : BX} {D : va_G} {cy : Nat → ClassId} {b : Nat} {r : Option Value} {μ' : MS} (hB : BB X D cy b yX2_plainCode cX2_plainCode 6 (some .int) rmX2_plainCode) {l0 : Nat} {l1 : Nat} {l3 : Int32} {l4 : Int32} {l5 : Int32} {μ : MS} {z : ((Nat × Nat × Int32 × Int32 × Int32 × MS) ⊕ (Int32 × MS))} (hf : f_X2_plainCode_153 l0 l1 l3 l4 l5 μ = some z) (hk : (Sum.elim (fun s : Nat × Nat × Int32 × Int32 × Int32 × MS => WW X D cy b r μ' 6 0 0 76 [(0, .ref (b + s.1)), (1, .ref (b + s.2.1)), (3, .int s.2.2.1), (4, .int s.2.2.2.1), (5, .int s.2.2.2.2.1)] [] s.2.2.2.2.2) (fun z : Int32 × MS => r = some (.int z.1) ∧ μ' = z.2)) z) : WW X D cy b r μ' 6 0 0 153 [(0, .ref (b + l0)), (1, .ref (b + l1)), (3, .int l3), (4, .int l4), (5, .int l5)] [] μ := by
  unfold f_X2_plainCode_153 at hf
  refine r_iincB hB 4 rfl (by decide +kernel : decode cX2_plainCode 153 = .ok (.iinc 5 1, 3)) (w := 1) (by decide +kernel) (by decide) hf (fun v153 hf => ?_)
  refine ww_lv (lv' := [(5, .int v153), (0, .ref (b + l0)), (1, .ref (b + l1)), (3, .int l3), (4, .int l4)]) rfl ?_
  refine r_goto hB (tgt := 76) (by decide +kernel : decode cX2_plainCode 156 = .ok (.goto (-80), 3)) (by decide) ?_
  obtain rfl := Option.some.inj hf
  exact WW.sub [1, 2, 3, 4, 0] rfl hk
set_option maxHeartbeats 4000000 in
set_option maxRecDepth 100000 in
theorem t_X2_plainCode_106 {X : BX} {D : va_G} {cy : Nat → ClassId} {b : Nat} {r : Option Value} {μ' : MS} (hB : BB X D cy b yX2_plainCode cX2_plainCode 6 (some .int) rmX2_plainCode)  {μ : MS} {z : (Int32 × MS)} (hf : f_X2_plainCode_106  μ = some z) (hk : (fun z : Int32 × MS => r = some (.int z.1) ∧ μ' = z.2) z) : WW X D cy b r μ' 6 0 0 106 [] [] μ := by
  unfold f_X2_plainCode_106 at hf
  refine r_bipush hB (v := (-9)) (by decide +kernel : decode cX2_plainCode 106 = .ok (.bipush (-9), 2)) (by decide +kernel) ?_
  obtain rfl := Option.some.inj hf
  obtain ⟨rfl, rfl⟩ := hk
  exact r_iret hB (by decide +kernel : decode cX2_plainCode 108 = .ok (.ireturn, 1))
set_option maxHeartbeats 4000000 in
set_option maxRecDepth 100000 in
theorem t_X2_plainCode_76_b {X : BX} {D : va_G} {cy : Nat → ClassId} {b : Nat} {r : Option Value} {μ' : MS} (hB : BB X D cy b yX2_plainCode cX2_plainCode 6 (some .int) rmX2_plainCode) {l0 : Nat} {l1 : Nat} {l3 : Int32} {l4 : Int32} {l5 : Int32} {μ : MS} {z : ((Nat × Nat × Int32 × Int32 × Int32 × MS) ⊕ (Int32 × MS))} (hf : f_X2_plainCode_76_b l0 l1 l3 l4 l5 μ = some z) (hk : (Sum.elim (fun s : Nat × Nat × Int32 × Int32 × Int32 × MS => WW X D cy b r μ' 6 0 0 76 [(0, .ref (b + s.1)), (1, .ref (b + s.2.1)), (3, .int s.2.2.1), (4, .int s.2.2.2.1), (5, .int s.2.2.2.2.1)] [] s.2.2.2.2.2) (fun z : Int32 × MS => r = some (.int z.1) ∧ μ' = z.2)) z) : WW X D cy b r μ' 6 0 0 76 [(0, .ref (b + l0)), (1, .ref (b + l1)), (3, .int l3), (4, .int l4), (5, .int l5)] [] μ := by
  unfold f_X2_plainCode_76_b at hf
  refine r_iload hB 4 rfl (by decide +kernel : decode cX2_plainCode 76 = .ok (.iload 5, 2)) ?_
  refine r_aload_n hB 0 rfl (by decide +kernel : decode cX2_plainCode 78 = .ok (.aload_n 0, 1)) rfl ?_
  refine r_gI hB cf2 3 (by decide) (own := "PulseRemote$Decoder") rfl (Or.inl k_234) (by decide +kernel) (by decide +kernel : decode cX2_plainCode 79 = .ok (.getfield 64, 3)) hf (fun x79 hf => ?_)
  refine r_icmp_ge hB (tgt := 159) (by decide +kernel : decode cX2_plainCode 82 = .ok (.if_icmp .ge 77, 3)) (by decide) hf (fun _ hf => ?_) (fun _ hf => ?_)
  · obtain ⟨_, hx0, rfl⟩ := xr_inv hf
    exact WW.sub [3] rfl (t_X2_plainCode_159 hB hx0 hk)
  · refine r_iload hB 4 rfl (by decide +kernel : decode cX2_plainCode 85 = .ok (.iload 5, 2)) ?_
    refine r_iconst hB (v := 2) (by decide +kernel : decode cX2_plainCode 87 = .ok (.iconst 2, 1)) (by decide +kernel) ?_
    refine r_irem hB (by decide +kernel : decode cX2_plainCode 88 = .ok (.irem, 1)) hf (fun v88 hf => ?_)
    refine r_iload_n hB 2 rfl (by decide +kernel : decode cX2_plainCode 89 = .ok (.iload_n 3, 1)) rfl ?_
    refine r_icmp_eq hB (tgt := 109) (by decide +kernel : decode cX2_plainCode 90 = .ok (.if_icmp .eq 19, 3)) (by decide) hf (fun _ hf => ?_) (fun _ hf => ?_)
    · refine r_aload_n hB 0 rfl (by decide +kernel : decode cX2_plainCode 109 = .ok (.aload_n 0, 1)) rfl ?_
      refine r_iload hB 4 rfl (by decide +kernel : decode cX2_plainCode 110 = .ok (.iload 5, 2)) ?_
      refine r_aload_n hB 1 rfl (by decide +kernel : decode cX2_plainCode 112 = .ok (.aload_n 1, 1)) rfl ?_
      refine r_gI hB cf6 4 (by decide) (own := "PulseRemote$Decoder") rfl (Or.inr ⟨_, k_77⟩) (by decide +kernel) (by decide +kernel : decode cX2_plainCode 113 = .ok (.getfield 94, 3)) hf (fun x113 hf => ?_)
      refine r_cVi hB [.int l5, .int x113] [] cf2 (own := "PulseRemote$Decoder") rfl cmX2_fits imX2_fits (Or.inl k_545) (by decide) rfl rfl rfl (Nat.le_of_ble_eq_true rfl) (by decide +kernel : decode cX2_plainCode 116 = .ok (.invokevirtual 77, 3)) (fun z hz => m_X2_fits _ _ _ _ hz) rfl hf (fun z116 hf => ?_)
      refine r_if_ne hB (tgt := 153) (by decide +kernel : decode cX2_plainCode 119 = .ok (.ifCond .ne 34, 3)) (by decide) hf (fun _ hf => ?_) (fun _ hf => ?_)
      · refine r_aload_n hB 0 rfl (by decide +kernel : decode cX2_plainCode 122 = .ok (.aload_n 0, 1)) rfl ?_
        refine r_iload hB 4 rfl (by decide +kernel : decode cX2_plainCode 123 = .ok (.iload 5, 2)) ?_
        refine r_aload_n hB 1 rfl (by decide +kernel : decode cX2_plainCode 125 = .ok (.aload_n 1, 1)) rfl ?_
        refine r_gI hB cf6 5 (by decide) (own := "PulseRemote$Decoder") rfl (Or.inr ⟨_, k_80⟩) (by decide +kernel) (by decide +kernel : decode cX2_plainCode 126 = .ok (.getfield 97, 3)) hf (fun x126 hf => ?_)
        refine r_cVi hB [.int l5, .int x126] [] cf2 (own := "PulseRemote$Decoder") rfl cmX2_fits imX2_fits (Or.inl k_545) (by decide) rfl rfl rfl (Nat.le_of_ble_eq_true rfl) (by decide +kernel : decode cX2_plainCode 129 = .ok (.invokevirtual 77, 3)) (fun z hz => m_X2_fits _ _ _ _ hz) rfl hf (fun z129 hf => ?_)
        refine r_if_ne hB (tgt := 138) (by decide +kernel : decode cX2_plainCode 132 = .ok (.ifCond .ne 6, 3)) (by decide) hf (fun _ hf => ?_) (fun _ hf => ?_)
        · obtain ⟨_, hx0, rfl⟩ := xr_inv hf
          exact WW.sub [] rfl (t_X2_plainCode_135 hB hx0 hk)
        · refine r_iload hB 3 rfl (by decide +kernel : decode cX2_plainCode 138 = .ok (.iload 4, 2)) ?_
          refine r_aload_n hB 1 rfl (by decide +kernel : decode cX2_plainCode 140 = .ok (.aload_n 1, 1)) rfl ?_
          refine r_iload hB 4 rfl (by decide +kernel : decode cX2_plainCode 141 = .ok (.iload 5, 2)) ?_
          refine r_iconst hB (v := 2) (by decide +kernel : decode cX2_plainCode 143 = .ok (.iconst 2, 1)) (by decide +kernel) ?_
          refine r_isub hB (by decide +kernel : decode cX2_plainCode 144 = .ok (.isub, 1)) ?_
          refine r_iconst hB (v := 2) (by decide +kernel : decode cX2_plainCode 145 = .ok (.iconst 2, 1)) (by decide +kernel) ?_
          refine r_idiv hB (by decide +kernel : decode cX2_plainCode 146 = .ok (.idiv, 1)) hf (fun v146 hf => ?_)
          refine r_cVi hB [.int v146] [.int l4] cf6 (own := "PulseRemote$Decoder") rfl cmX6_maskAt imX6_maskAt (Or.inl k_564) (by decide) rfl rfl rfl (Nat.le_of_ble_eq_true rfl) (by decide +kernel : decode cX2_plainCode 147 = .ok (.invokevirtual 100, 3)) (fun z hz => m_X6_maskAt _ _ _ _ hz) rfl hf (fun z147 hf => ?_)
          refine r_ior hB (by decide +kernel : decode cX2_plainCode 150 = .ok (.ior, 1)) ?_
          refine r_name hf (fun v151 hf => ?_)
          refine r_istore hB (by decide +kernel : decode cX2_plainCode 151 = .ok (.istore 4, 2)) (by decide) rfl ?_
          refine ww_lv (lv' := [(4, .int v151), (0, .ref (b + l0)), (1, .ref (b + l1)), (3, .int l3), (5, .int l5)]) rfl ?_
          exact WW.sub [1, 2, 3, 0, 4] rfl (t_X2_plainCode_153 hB hf hk)
      · exact WW.sub [0, 1, 2, 3, 4] rfl (t_X2_plainCode_153 hB hf hk)
    · refine r_aload_n hB 0 rfl (by decide +kernel : decode cX2_plainCode 93 = .ok (.aload_n 0, 1)) rfl ?_
      refine r_iload hB 4 rfl (by decide +kernel : decode cX2_plainCode 94 = .ok (.iload 5, 2)) ?_
      refine r_aload_n hB 1 rfl (by decide +kernel : decode cX2_plainCode 96 = .ok (.aload_n 1, 1)) rfl ?_
      refine r_gI hB cf6 3 (by decide) (own := "PulseRemote$Decoder") rfl (Or.inr ⟨_, k_74⟩) (by decide +kernel) (by decide +kernel : decode cX2_plainCode 97 = .ok (.getfield 84, 3)) hf (fun x97 hf => ?_)
      refine r_cVi hB [.int l5, .int x97] [] cf2 (own := "PulseRemote$Decoder") rfl cmX2_fits imX2_fits (Or.inl k_545) (by decide) rfl rfl rfl (Nat.le_of_ble_eq_true rfl) (by decide +kernel : decode cX2_plainCode 100 = .ok (.invokevirtual 77, 3)) (fun z hz => m_X2_fits _ _ _ _ hz) rfl hf (fun z100 hf => ?_)
      refine r_if_ne hB (tgt := 153) (by decide +kernel : decode cX2_plainCode 103 = .ok (.ifCond .ne 50, 3)) (by decide) hf (fun _ hf => ?_) (fun _ hf => ?_)
      · obtain ⟨_, hx0, rfl⟩ := xr_inv hf
        exact WW.sub [] rfl (t_X2_plainCode_106 hB hx0 hk)
      · exact WW.sub [0, 1, 2, 3, 4] rfl (t_X2_plainCode_153 hB hf hk)
set_option maxHeartbeats 4000000 in
set_option maxRecDepth 100000 in
theorem t_X2_plainCode_76 {X : BX} {D : va_G} {cy : Nat → ClassId} {b : Nat} {r : Option Value} {μ' : MS} (hB : BB X D cy b yX2_plainCode cX2_plainCode 6 (some .int) rmX2_plainCode) {l0 : Nat} {l1 : Nat} {l3 : Int32} {l4 : Int32} {l5 : Int32} {μ : MS} {z : (Int32 × MS)} (hf : f_X2_plainCode_76 l0 l1 l3 l4 l5 μ = some z) (hk : (fun z : Int32 × MS => r = some (.int z.1) ∧ μ' = z.2) z) : WW X D cy b r μ' 6 0 0 76 [(0, .ref (b + l0)), (1, .ref (b + l1)), (3, .int l3), (4, .int l4), (5, .int l5)] [] μ :=
  lp_ind (P := fun s : Nat × Nat × Int32 × Int32 × Int32 × MS => WW X D cy b r μ' 6 0 0 76 [(0, .ref (b + s.1)), (1, .ref (b + s.2.1)), (3, .int s.2.2.1), (4, .int s.2.2.2.1), (5, .int s.2.2.2.2.1)] [] s.2.2.2.2.2) (Q := (fun z : Int32 × MS => r = some (.int z.1) ∧ μ' = z.2)) (fun s z hz hk => t_X2_plainCode_76_b hB hz hk) (l0, l1, l3, l4, l5, μ) z hf hk
set_option maxHeartbeats 4000000 in
set_option maxRecDepth 100000 in
theorem t_X2_plainCode_69 {X : BX} {D : va_G} {cy : Nat → ClassId} {b : Nat} {r : Option Value} {μ' : MS} (hB : BB X D cy b yX2_plainCode cX2_plainCode 6 (some .int) rmX2_plainCode) {l0 : Nat} {l1 : Nat} {s0 : Int32} {μ : MS} {z : (Int32 × MS)} (hf : f_X2_plainCode_69 l0 l1 s0 μ = some z) (hk : (fun z : Int32 × MS => r = some (.int z.1) ∧ μ' = z.2) z) : WW X D cy b r μ' 6 0 0 69 [(0, .ref (b + l0)), (1, .ref (b + l1))] [.int s0] μ := by
  unfold f_X2_plainCode_69 at hf
  refine r_istore_n hB (by decide +kernel : decode cX2_plainCode 69 = .ok (.istore_n 3, 1)) rfl (by decide) rfl ?_
  refine ww_lv (lv' := [(3, .int s0), (0, .ref (b + l0)), (1, .ref (b + l1))]) rfl ?_
  refine r_iconst hB (v := 0) (by decide +kernel : decode cX2_plainCode 70 = .ok (.iconst 0, 1)) (by decide +kernel) ?_
  refine r_istore hB (by decide +kernel : decode cX2_plainCode 71 = .ok (.istore 4, 2)) (by decide) rfl ?_
  refine ww_lv (lv' := [(4, .int 0), (3, .int s0), (0, .ref (b + l0)), (1, .ref (b + l1))]) rfl ?_
  refine r_iconst hB (v := 2) (by decide +kernel : decode cX2_plainCode 73 = .ok (.iconst 2, 1)) (by decide +kernel) ?_
  refine r_istore hB (by decide +kernel : decode cX2_plainCode 74 = .ok (.istore 5, 2)) (by decide) rfl ?_
  refine ww_lv (lv' := [(5, .int 2), (4, .int 0), (3, .int s0), (0, .ref (b + l0)), (1, .ref (b + l1))]) rfl ?_
  exact WW.sub [3, 4, 2, 1, 0] rfl (t_X2_plainCode_76 hB hf hk)
set_option maxHeartbeats 4000000 in
set_option maxRecDepth 100000 in
theorem t_X2_plainCode_13 {X : BX} {D : va_G} {cy : Nat → ClassId} {b : Nat} {r : Option Value} {μ' : MS} (hB : BB X D cy b yX2_plainCode cX2_plainCode 6 (some .int) rmX2_plainCode) {l0 : Nat} {l1 : Nat} {s0 : Int32} {μ : MS} {z : (Int32 × MS)} (hf : f_X2_plainCode_13 l0 l1 s0 μ = some z) (hk : (fun z : Int32 × MS => r = some (.int z.1) ∧ μ' = z.2) z) : WW X D cy b r μ' 6 0 0 13 [(0, .ref (b + l0)), (1, .ref (b + l1))] [.int s0] μ := by
  unfold f_X2_plainCode_13 at hf
  refine r_istore_n hB (by decide +kernel : decode cX2_plainCode 13 = .ok (.istore_n 2, 1)) rfl (by decide) rfl ?_
  refine ww_lv (lv' := [(2, .int s0), (0, .ref (b + l0)), (1, .ref (b + l1))]) rfl ?_
  refine r_aload_n hB 1 rfl (by decide +kernel : decode cX2_plainCode 14 = .ok (.aload_n 0, 1)) rfl ?_
  refine r_gI hB cf2 3 (by decide) (own := "PulseRemote$Decoder") rfl (Or.inl k_234) (by decide +kernel) (by decide +kernel : decode cX2_plainCode 15 = .ok (.getfield 64, 3)) hf (fun x15 hf => ?_)
  refine r_iconst hB (v := 2) (by decide +kernel : decode cX2_plainCode 18 = .ok (.iconst 2, 1)) (by decide +kernel) ?_
  refine r_aload_n hB 2 rfl (by decide +kernel : decode cX2_plainCode 19 = .ok (.aload_n 1, 1)) rfl ?_
  refine r_gI hB cf6 6 (by decide) (own := "PulseRemote$Decoder") rfl (Or.inr ⟨_, k_83⟩) (by decide +kernel) (by decide +kernel : decode cX2_plainCode 20 = .ok (.getfield 91, 3)) hf (fun x20 hf => ?_)
  refine r_imul hB (by decide +kernel : decode cX2_plainCode 23 = .ok (.imul, 1)) ?_
  refine r_iload_n hB 0 rfl (by decide +kernel : decode cX2_plainCode 24 = .ok (.iload_n 2, 1)) rfl ?_
  refine r_iadd hB (by decide +kernel : decode cX2_plainCode 25 = .ok (.iadd, 1)) ?_
  refine r_icmp_ne hB (tgt := 53) (by decide +kernel : decode cX2_plainCode 26 = .ok (.if_icmp .ne 27, 3)) (by decide) hf (fun _ hf => ?_) (fun _ hf => ?_)
  · refine r_aload_n hB 1 rfl (by decide +kernel : decode cX2_plainCode 29 = .ok (.aload_n 0, 1)) rfl ?_
    refine r_iconst hB (v := 0) (by decide +kernel : decode cX2_plainCode 30 = .ok (.iconst 0, 1)) (by decide +kernel) ?_
    refine r_aload_n hB 2 rfl (by decide +kernel : decode cX2_plainCode 31 = .ok (.aload_n 1, 1)) rfl ?_
    refine r_gI hB cf6 1 (by decide) (own := "PulseRemote$Decoder") rfl (Or.inr ⟨_, k_68⟩) (by decide +kernel) (by decide +kernel : decode cX2_plainCode 32 = .ok (.getfield 74, 3)) hf (fun x32 hf => ?_)
    refine r_cVi hB [.int 0, .int x32] [] cf2 (own := "PulseRemote$Decoder") rfl cmX2_fits imX2_fits (Or.inl k_545) (by decide) rfl rfl rfl (Nat.le_of_ble_eq_true rfl) (by decide +kernel : decode cX2_plainCode 35 = .ok (.invokevirtual 77, 3)) (fun z hz => m_X2_fits _ _ _ _ hz) rfl hf (fun z35 hf => ?_)
    refine r_if_eq hB (tgt := 53) (by decide +kernel : decode cX2_plainCode 38 = .ok (.ifCond .eq 15, 3)) (by decide) hf (fun _ hf => ?_) (fun _ hf => ?_)
    · refine r_bipush hB (v := (-9)) (by decide +kernel : decode cX2_plainCode 53 = .ok (.bipush (-9), 2)) (by decide +kernel) ?_
      obtain rfl := Option.some.inj hf
      obtain ⟨rfl, rfl⟩ := hk
      exact r_iret hB (by decide +kernel : decode cX2_plainCode 55 = .ok (.ireturn, 1))
    · refine r_aload_n hB 1 rfl (by decide +kernel : decode cX2_plainCode 41 = .ok (.aload_n 0, 1)) rfl ?_
      refine r_iconst hB (v := 1) (by decide +kernel : decode cX2_plainCode 42 = .ok (.iconst 1, 1)) (by decide +kernel) ?_
      refine r_aload_n hB 2 rfl (by decide +kernel : decode cX2_plainCode 43 = .ok (.aload_n 1, 1)) rfl ?_
      refine r_gI hB cf6 2 (by decide) (own := "PulseRemote$Decoder") rfl (Or.inr ⟨_, k_71⟩) (by decide +kernel) (by decide +kernel : decode cX2_plainCode 44 = .ok (.getfield 81, 3)) hf (fun x44 hf => ?_)
      refine r_cVi hB [.int 1, .int x44] [] cf2 (own := "PulseRemote$Decoder") rfl cmX2_fits imX2_fits (Or.inl k_545) (by decide) rfl rfl rfl (Nat.le_of_ble_eq_true rfl) (by decide +kernel : decode cX2_plainCode 47 = .ok (.invokevirtual 77, 3)) (fun z hz => m_X2_fits _ _ _ _ hz) rfl hf (fun z47 hf => ?_)
      refine r_if_ne hB (tgt := 56) (by decide +kernel : decode cX2_plainCode 50 = .ok (.ifCond .ne 6, 3)) (by decide) hf (fun _ hf => ?_) (fun _ hf => ?_)
      · refine r_bipush hB (v := (-9)) (by decide +kernel : decode cX2_plainCode 53 = .ok (.bipush (-9), 2)) (by decide +kernel) ?_
        obtain rfl := Option.some.inj hf
        obtain ⟨rfl, rfl⟩ := hk
        exact r_iret hB (by decide +kernel : decode cX2_plainCode 55 = .ok (.ireturn, 1))
      · refine r_aload_n hB 2 rfl (by decide +kernel : decode cX2_plainCode 56 = .ok (.aload_n 1, 1)) rfl ?_
        refine r_gI hB cf6 0 (by decide) (own := "PulseRemote$Decoder") rfl (Or.inr ⟨_, k_65⟩) (by decide +kernel) (by decide +kernel : decode cX2_plainCode 57 = .ok (.getfield 42, 3)) hf (fun x57 hf => ?_)
        refine r_iconst hB (v := 1) (by decide +kernel : decode cX2_plainCode 60 = .ok (.iconst 1, 1)) (by decide +kernel) ?_
        refine r_icmp_ne hB (tgt := 68) (by decide +kernel : decode cX2_plainCode 61 = .ok (.if_icmp .ne 7, 3)) (by decide) hf (fun _ hf => ?_) (fun _ hf => ?_)
        · refine r_iconst hB (v := 0) (by decide +kernel : decode cX2_plainCode 64 = .ok (.iconst 0, 1)) (by decide +kernel) ?_
          refine r_goto hB (tgt := 69) (by decide +kernel : decode cX2_plainCode 65 = .ok (.goto 4, 3)) (by decide) ?_
          exact WW.sub [1, 2] rfl (t_X2_plainCode_69 hB hf hk)
        · refine r_iconst hB (v := 1) (by decide +kernel : decode cX2_plainCode 68 = .ok (.iconst 1, 1)) (by decide +kernel) ?_
          exact WW.sub [1, 2] rfl (t_X2_plainCode_69 hB hf hk)
  · refine r_bipush hB (v := (-9)) (by decide +kernel : decode cX2_plainCode 53 = .ok (.bipush (-9), 2)) (by decide +kernel) ?_
    obtain rfl := Option.some.inj hf
    obtain ⟨rfl, rfl⟩ := hk
    exact r_iret hB (by decide +kernel : decode cX2_plainCode 55 = .ok (.ireturn, 1))
set_option maxHeartbeats 4000000 in
set_option maxRecDepth 100000 in
theorem t_X2_plainCode_0 {X : BX} {D : va_G} {cy : Nat → ClassId} {b : Nat} {r : Option Value} {μ' : MS} (hB : BB X D cy b yX2_plainCode cX2_plainCode 6 (some .int) rmX2_plainCode) {l0 : Nat} {l1 : Nat} {μ : MS} {z : (Int32 × MS)} (hf : f_X2_plainCode l0 l1 μ = some z) (hk : (fun z : Int32 × MS => r = some (.int z.1) ∧ μ' = z.2) z) : WW X D cy b r μ' 6 0 0 0 [(0, .ref (b + l0)), (1, .ref (b + l1))] [] μ := by
  unfold f_X2_plainCode at hf
  refine r_aload_n hB 1 rfl (by decide +kernel : decode cX2_plainCode 0 = .ok (.aload_n 1, 1)) rfl ?_
  refine r_gI hB cf6 0 (by decide) (own := "PulseRemote$Decoder") rfl (Or.inr ⟨_, k_65⟩) (by decide +kernel) (by decide +kernel : decode cX2_plainCode 1 = .ok (.getfield 42, 3)) hf (fun x1 hf => ?_)
  refine r_iconst hB (v := 1) (by decide +kernel : decode cX2_plainCode 4 = .ok (.iconst 1, 1)) (by decide +kernel) ?_
  refine r_icmp_ne hB (tgt := 12) (by decide +kernel : decode cX2_plainCode 5 = .ok (.if_icmp .ne 7, 3)) (by decide) hf (fun _ hf => ?_) (fun _ hf => ?_)
  · refine r_iconst hB (v := 1) (by decide +kernel : decode cX2_plainCode 8 = .ok (.iconst 1, 1)) (by decide +kernel) ?_
    refine r_goto hB (tgt := 13) (by decide +kernel : decode cX2_plainCode 9 = .ok (.goto 4, 3)) (by decide) ?_
    exact WW.sub [0, 1] rfl (t_X2_plainCode_13 hB hf hk)
  · refine r_iconst hB (v := 3) (by decide +kernel : decode cX2_plainCode 12 = .ok (.iconst 3, 1)) (by decide +kernel) ?_
    exact WW.sub [0, 1] rfl (t_X2_plainCode_13 hB hf hk)
theorem m_X2_plainCode (l : Launch) (D : va_G) (cy : Nat → ClassId) (b : Nat) {l0 : Nat} {l1 : Nat} {μ : MS} {z : Int32 × MS} (hf : f_X2_plainCode l0 l1 μ = some z) : Met l yX2_plainCode (.code yX2_plainCode cX2_plainCode 6 (some .int) :: GW) rmX2_plainCode (Pw D cy b [.ref (b + l0), .ref (b + l1)] μ) (Qw D cy b (some (.int z.1)) (z.2)) rmX2_plainCode.cells rmX2_plainCode.slots (fun q => b ≤ q) :=
  met_of (by decide) (Nat.le_of_ble_eq_true rfl) (fun X hB _ => (t_X2_plainCode_0 hB hf ⟨rfl, rfl⟩))
-- PulseRemote$Decoder.protocolOfShortFrame(LPulseRemote$Table;)I
set_option maxHeartbeats 4000000 in
set_option maxRecDepth 100000 in
theorem t_X2_protocolOfShortFrame_78 {X : BX} {D : va_G} {cy : Nat → ClassId} {b : Nat} {r : Option Value} {μ' : MS} (hB : BB X D cy b yX2_protocolOfShortFrame cX2_protocolOfShortFrame 4 (some .int) rmX2_protocolOfShortFrame)  {μ : MS} {z : (Int32 × MS)} (hf : f_X2_protocolOfShortFrame_78  μ = some z) (hk : (fun z : Int32 × MS => r = some (.int z.1) ∧ μ' = z.2) z) : WW X D cy b r μ' 4 0 0 78 [] [] μ := by
  unfold f_X2_protocolOfShortFrame_78 at hf
  refine r_bipush hB (v := (-9)) (by decide +kernel : decode cX2_protocolOfShortFrame 78 = .ok (.bipush (-9), 2)) (by decide +kernel) ?_
  obtain rfl := Option.some.inj hf
  obtain ⟨rfl, rfl⟩ := hk
  exact r_iret hB (by decide +kernel : decode cX2_protocolOfShortFrame 80 = .ok (.ireturn, 1))
set_option maxHeartbeats 4000000 in
set_option maxRecDepth 100000 in
theorem t_X2_protocolOfShortFrame_72 {X : BX} {D : va_G} {cy : Nat → ClassId} {b : Nat} {r : Option Value} {μ' : MS} (hB : BB X D cy b yX2_protocolOfShortFrame cX2_protocolOfShortFrame 4 (some .int) rmX2_protocolOfShortFrame) {l0 : Nat} {l1 : Nat} {l2 : Int32} {μ : MS} {z : ((Nat × Nat × Int32 × MS) ⊕ (Int32 × MS))} (hf : f_X2_protocolOfShortFrame_72 l0 l1 l2 μ = some z) (hk : (Sum.elim (fun s : Nat × Nat × Int32 × MS => WW X D cy b r μ' 4 0 0 2 [(0, .ref (b + s.1)), (1, .ref (b + s.2.1)), (2, .int s.2.2.1)] [] s.2.2.2) (fun z : Int32 × MS => r = some (.int z.1) ∧ μ' = z.2)) z) : WW X D cy b r μ' 4 0 0 72 [(0, .ref (b + l0)), (1, .ref (b + l1)), (2, .int l2)] [] μ := by
  unfold f_X2_protocolOfShortFrame_72 at hf
  refine r_iincB hB 2 rfl (by decide +kernel : decode cX2_protocolOfShortFrame 72 = .ok (.iinc 2 1, 3)) (w := 1) (by decide +kernel) (by decide) hf (fun v72 hf => ?_)
  refine ww_lv (lv' := [(2, .int v72), (0, .ref (b + l0)), (1, .ref (b + l1))]) rfl ?_
  refine r_goto hB (tgt := 2) (by decide +kernel : decode cX2_protocolOfShortFrame 75 = .ok (.goto (-73), 3)) (by decide) ?_
  obtain rfl := Option.some.inj hf
  exact WW.sub [1, 2, 0] rfl hk
set_option maxHeartbeats 4000000 in
set_option maxRecDepth 100000 in
theorem t_X2_protocolOfShortFrame_70 {X : BX} {D : va_G} {cy : Nat → ClassId} {b : Nat} {r : Option Value} {μ' : MS} (hB : BB X D cy b yX2_protocolOfShortFrame cX2_protocolOfShortFrame 4 (some .int) rmX2_protocolOfShortFrame) {l2 : Int32} {μ : MS} {z : (Int32 × MS)} (hf : f_X2_protocolOfShortFrame_70 l2 μ = some z) (hk : (fun z : Int32 × MS => r = some (.int z.1) ∧ μ' = z.2) z) : WW X D cy b r μ' 4 0 0 70 [(2, .int l2)] [] μ := by
  unfold f_X2_protocolOfShortFrame_70 at hf
  refine r_iload_n hB 0 rfl (by decide +kernel : decode cX2_protocolOfShortFrame 70 = .ok (.iload_n 2, 1)) rfl ?_
  obtain rfl := Option.some.inj hf
  obtain ⟨rfl, rfl⟩ := hk
  exact r_iret hB (by decide +kernel : decode cX2_protocolOfShortFrame 71 = .ok (.ireturn, 1))
set_option maxHeartbeats 4000000 in
set_option maxRecDepth 100000 in
theorem t_X2_protocolOfShortFrame_2_b {X : BX} {D : va_G} {cy : Nat → ClassId} {b : Nat} {r : Option Value} {μ' : MS} (hB : BB X D cy b yX2_protocolOfShortFrame cX2_protocolOfShortFrame 4 (some .int) rmX2_protocolOfShortFrame) {l0 : Nat} {l1 : Nat} {l2 : Int32} {μ : MS} {z : ((Nat × Nat × Int32 × MS) ⊕ (Int32 × MS))} (hf : f_X2_protocolOfShortFrame_2_b l0 l1 l2 μ = some z) (hk : (Sum.elim (fun s : Nat × Nat × Int32 × MS => WW X D cy b r μ' 4 0 0 2 [(0, .ref (b + s.1)), (1, .ref (b + s.2.1)), (2, .int s.2.2.1)] [] s.2.2.2) (fun z : Int32 × MS => r = some (.int z.1) ∧ μ' = z.2)) z) : WW X D cy b r μ' 4 0 0 2 [(0, .ref (b + l0)), (1, .ref (b + l1)), (2, .int l2)] [] μ := by
  unfold f_X2_protocolOfShortFrame_2_b at hf
  refine r_iload_n hB 2 rfl (by decide +kernel : decode cX2_protocolOfShortFrame 2 = .ok (.iload_n 2, 1)) rfl ?_
  refine r_aload_n hB 1 rfl (by decide +kernel : decode cX2_protocolOfShortFrame 3 = .ok (.aload_n 1, 1)) rfl ?_
  refine r_gI hB cf8 1 (by decide) (own := "PulseRemote$Decoder") rfl (Or.inr ⟨_, k_112⟩) (by decide +kernel) (by decide +kernel : decode cX2_protocolOfShortFrame 4 = .ok (.getfield 33, 3)) hf (fun x4 hf => ?_)
  refine r_icmp_ge hB (tgt := 78) (by decide +kernel : decode cX2_protocolOfShortFrame 7 = .ok (.if_icmp .ge 71, 3)) (by decide) hf (fun _ hf => ?_) (fun _ hf => ?_)
  · obtain ⟨_, hx0, rfl⟩ := xr_inv hf
    exact WW.sub [] rfl (t_X2_protocolOfShortFrame_78 hB hx0 hk)
  · refine r_aload_n hB 1 rfl (by decide +kernel : decode cX2_protocolOfShortFrame 10 = .ok (.aload_n 1, 1)) rfl ?_
    refine r_iload_n hB 2 rfl (by decide +kernel : decode cX2_protocolOfShortFrame 11 = .ok (.iload_n 2, 1)) rfl ?_
    refine r_cVr hB [.int l2] [] cf8 (own := "PulseRemote$Decoder") rfl cmX8_protocolAt imX8_protocolAt (Or.inl k_537) (by decide) rfl rfl rfl (Nat.le_of_ble_eq_true rfl) (by decide +kernel : decode cX2_protocolOfShortFrame 12 = .ok (.invokevirtual 38, 3)) (fun z hz => m_X8_protocolAt _ _ _ _ hz) rfl hf (fun z12 hf => ?_)
    refine r_astore_n hB (by decide +kernel : decode cX2_protocolOfShortFrame 15 = .ok (.astore_n 3, 1)) rfl (by decide) rfl ?_
    refine ww_lv (lv' := [(3, .ref (b + z12.1)), (0, .ref (b + l0)), (1, .ref (b + l1)), (2, .int l2)]) rfl ?_
    refine r_aload_n hB 0 rfl (by decide +kernel : decode cX2_protocolOfShortFrame 16 = .ok (.aload_n 3, 1)) rfl ?_
    refine r_gI hB cf6 8 (by decide) (own := "PulseRemote$Decoder") rfl (Or.inr ⟨_, k_89⟩) (by decide +kernel) (by decide +kernel : decode cX2_protocolOfShortFrame 17 = .ok (.getfield 71, 3)) hf (fun x17 hf => ?_)
    refine r_iconst hB (v := 1) (by decide +kernel : decode cX2_protocolOfShortFrame 20 = .ok (.iconst 1, 1)) (by decide +kernel) ?_
    refine r_icmp_ne hB (tgt := 72) (by decide +kernel : decode cX2_protocolOfShortFrame 21 = .ok (.if_icmp .ne 51, 3)) (by decide) hf (fun _ hf => ?_) (fun _ hf => ?_)
    · refine r_aload_n hB 1 rfl (by decide +kernel : decode cX2_protocolOfShortFrame 24 = .ok (.aload_n 0, 1)) rfl ?_
      refine r_gI hB cf2 3 (by decide) (own := "PulseRemote$Decoder") rfl (Or.inl k_234) (by decide +kernel) (by decide +kernel : decode cX2_protocolOfShortFrame 25 = .ok (.getfield 64, 3)) hf (fun x25 hf => ?_)
      refine r_iconst hB (v := 3) (by decide +kernel : decode cX2_protocolOfShortFrame 28 = .ok (.iconst 3, 1)) (by decide +kernel) ?_
      refine r_icmp_ne hB (tgt := 72) (by decide +kernel : decode cX2_protocolOfShortFrame 29 = .ok (.if_icmp .ne 43, 3)) (by decide) hf (fun _ hf => ?_) (fun _ hf => ?_)
      · refine r_aload_n hB 1 rfl (by decide +kernel : decode cX2_protocolOfShortFrame 32 = .ok (.aload_n 0, 1)) rfl ?_
        refine r_iconst hB (v := 0) (by decide +kernel : decode cX2_protocolOfShortFrame 33 = .ok (.iconst 0, 1)) (by decide +kernel) ?_
        refine r_aload_n hB 0 rfl (by decide +kernel : decode cX2_protocolOfShortFrame 34 = .ok (.aload_n 3, 1)) rfl ?_
        refine r_gI hB cf6 1 (by decide) (own := "PulseRemote$Decoder") rfl (Or.inr ⟨_, k_68⟩) (by decide +kernel) (by decide +kernel : decode cX2_protocolOfShortFrame 35 = .ok (.getfield 74, 3)) hf (fun x35 hf => ?_)
        refine r_cVi hB [.int 0, .int x35] [] cf2 (own := "PulseRemote$Decoder") rfl cmX2_fits imX2_fits (Or.inl k_545) (by decide) rfl rfl rfl (Nat.le_of_ble_eq_true rfl) (by decide +kernel : decode cX2_protocolOfShortFrame 38 = .ok (.invokevirtual 77, 3)) (fun z hz => m_X2_fits _ _ _ _ hz) rfl hf (fun z38 hf => ?_)
        refine r_if_eq hB (tgt := 72) (by decide +kernel : decode cX2_protocolOfShortFrame 41 = .ok (.ifCond .eq 31, 3)) (by decide) hf (fun _ hf => ?_) (fun _ hf => ?_)
        · exact WW.sub [1, 2, 3] rfl (t_X2_protocolOfShortFrame_72 hB hf hk)
        · refine r_aload_n hB 1 rfl (by decide +kernel : decode cX2_protocolOfShortFrame 44 = .ok (.aload_n 0, 1)) rfl ?_
          refine r_iconst hB (v := 1) (by decide +kernel : decode cX2_protocolOfShortFrame 45 = .ok (.iconst 1, 1)) (by decide +kernel) ?_
          refine r_aload_n hB 0 rfl (by decide +kernel : decode cX2_protocolOfShortFrame 46 = .ok (.aload_n 3, 1)) rfl ?_
          refine r_gI hB cf6 2 (by decide) (own := "PulseRemote$Decoder") rfl (Or.inr ⟨_, k_71⟩) (by decide +kernel) (by decide +kernel : decode cX2_protocolOfShortFrame 47 = .ok (.getfield 81, 3)) hf (fun x47 hf => ?_)
          refine r_iconst hB (v := 2) (by decide +kernel : decode cX2_protocolOfShortFrame 50 = .ok (.iconst 2, 1)) (by decide +kernel) ?_
          refine r_idiv hB (by decide +kernel : decode cX2_protocolOfShortFrame 51 = .ok (.idiv, 1)) hf (fun v51 hf => ?_)
          refine r_cVi hB [.int 1, .int v51] [] cf2 (own := "PulseRemote$Decoder") rfl cmX2_fits imX2_fits (Or.inl k_545) (by decide) rfl rfl rfl (Nat.le_of_ble_eq_true rfl) (by decide +kernel : decode cX2_protocolOfShortFrame 52 = .ok (.invokevirtual 77, 3)) (fun z hz => m_X2_fits _ _ _ _ hz) rfl hf (fun z52 hf => ?_)
          refine r_if_eq hB (tgt := 72) (by decide +kernel : decode cX2_protocolOfShortFrame 55 = .ok (.ifCond .eq 17, 3)) (by decide) hf (fun _ hf => ?_) (fun _ hf => ?_)
          · exact WW.sub [1, 2, 3] rfl (t_X2_protocolOfShortFrame_72 hB hf hk)
          · refine r_aload_n hB 1 rfl (by decide +kernel : decode cX2_protocolOfShortFrame 58 = .ok (.aload_n 0, 1)) rfl ?_
            refine r_iconst hB (v := 2) (by decide +kernel : decode cX2_protocolOfShortFrame 59 = .ok (.iconst 2, 1)) (by decide +kernel) ?_
            refine r_aload_n hB 0 rfl (by decide +kernel : decode cX2_protocolOfShortFrame 60 = .ok (.aload_n 3, 1)) rfl ?_
            refine r_gI hB cf6 3 (by decide) (own := "PulseRemote$Decoder") rfl (Or.inr ⟨_, k_74⟩) (by decide +kernel) (by decide +kernel : decode cX2_protocolOfShortFrame 61 = .ok (.getfield 84, 3)) hf (fun x61 hf => ?_)
            refine r_cVi hB [.int 2, .int x61] [] cf2 (own := "PulseRemote$Decoder") rfl cmX2_fits imX2_fits (Or.inl k_545) (by decide) rfl rfl rfl (Nat.le_of_ble_eq_true rfl) (by decide +kernel : decode cX2_protocolOfShortFrame 64 = .ok (.invokevirtual 77, 3)) (fun z hz => m_X2_fits _ _ _ _ hz) rfl hf (fun z64 hf => ?_)
            refine r_if_eq hB (tgt := 72) (by decide +kernel : decode cX2_protocolOfShortFrame 67 = .ok (.ifCond .eq 5, 3)) (by decide) hf (fun _ hf => ?_) (fun _ hf => ?_)
            · exact WW.sub [1, 2, 3] rfl (t_X2_protocolOfShortFrame_72 hB hf hk)
            · obtain ⟨_, hx0, rfl⟩ := xr_inv hf
              exact WW.sub [3] rfl (t_X2_protocolOfShortFrame_70 hB hx0 hk)
      · exact WW.sub [1, 2, 3] rfl (t_X2_protocolOfShortFrame_72 hB hf hk)
    · exact WW.sub [1, 2, 3] rfl (t_X2_protocolOfShortFrame_72 hB hf hk)
set_option maxHeartbeats 4000000 in
set_option maxRecDepth 100000 in
theorem t_X2_protocolOfShortFrame_2 {X : BX} {D : va_G} {cy : Nat → ClassId} {b : Nat} {r : Option Value} {μ' : MS} (hB : BB X D cy b yX2_protocolOfShortFrame cX2_protocolOfShortFrame 4 (some .int) rmX2_protocolOfShortFrame) {l0 : Nat} {l1 : Nat} {l2 : Int32} {μ : MS} {z : (Int32 × MS)} (hf : f_X2_protocolOfShortFrame_2 l0 l1 l2 μ = some z) (hk : (fun z : Int32 × MS => r = some (.int z.1) ∧ μ' = z.2) z) : WW X D cy b r μ' 4 0 0 2 [(0, .ref (b + l0)), (1, .ref (b + l1)), (2, .int l2)] [] μ :=
  lp_ind (P := fun s : Nat × Nat × Int32 × MS => WW X D cy b r μ' 4 0 0 2 [(0, .ref (b + s.1)), (1, .ref (b + s.2.1)), (2, .int s.2.2.1)] [] s.2.2.2) (Q := (fun z : Int32 × MS => r = some (.int z.1) ∧ μ' = z.2)) (fun s z hz hk => t_X2_protocolOfShortFrame_2_b hB hz hk) (l0, l1, l2, μ) z hf hk
set_option maxHeartbeats 4000000 in
set_option maxRecDepth 100000 in
theorem t_X2_protocolOfShortFrame_0 {X : BX} {D : va_G} {cy : Nat → ClassId} {b : Nat} {r : Option Value} {μ' : MS} (hB : BB X D cy b yX2_protocolOfShortFrame cX2_protocolOfShortFrame 4 (some .int) rmX2_protocolOfShortFrame) {l0 : Nat} {l1 : Nat} {μ : MS} {z : (Int32 × MS)} (hf : f_X2_protocolOfShortFrame l0 l1 μ = some z) (hk : (fun z : Int32 × MS => r = some (.int z.1) ∧ μ' = z.2) z) : WW X D cy b r μ' 4 0 0 0 [(0, .ref (b + l0)), (1, .ref (b + l1))] [] μ := by
  unfold f_X2_protocolOfShortFrame at hf
  refine r_iconst hB (v := 0) (by decide +kernel : decode cX2_protocolOfShortFrame 0 = .ok (.iconst 0, 1)) (by decide +kernel) ?_
  refine r_istore_n hB (by decide +kernel : decode cX2_protocolOfShortFrame 1 = .ok (.istore_n 2, 1)) rfl (by decide) rfl ?_
  refine ww_lv (lv' := [(2, .int 0), (0, .ref (b + l0)), (1, .ref (b + l1))]) rfl ?_
  exact WW.sub [1, 2, 0] rfl (t_X2_protocolOfShortFrame_2 hB hf hk)
theorem m_X2_protocolOfShortFrame (l : Launch) (D : va_G) (cy : Nat → ClassId) (b : Nat) {l0 : Nat} {l1 : Nat} {μ : MS} {z : Int32 × MS} (hf : f_X2_protocolOfShortFrame l0 l1 μ = some z) : Met l yX2_protocolOfShortFrame (.code yX2_protocolOfShortFrame cX2_protocolOfShortFrame 4 (some .int) :: GW) rmX2_protocolOfShortFrame (Pw D cy b [.ref (b + l0), .ref (b + l1)] μ) (Qw D cy b (some (.int z.1)) (z.2)) rmX2_protocolOfShortFrame.cells rmX2_protocolOfShortFrame.slots (fun q => b ≤ q) :=
  met_of (by decide) (Nat.le_of_ble_eq_true rfl) (fun X hB _ => (t_X2_protocolOfShortFrame_0 hB hf ⟨rfl, rfl⟩))
-- PulseRemote$Decoder.decode(LPulseRemote$Table;LPulseRemote$FrameList;II)V
set_option maxHeartbeats 4000000 in
set_option maxRecDepth 100000 in
theorem t_X2_decode_98 {X : BX} {D : va_G} {cy : Nat → ClassId} {b : Nat} {r : Option Value} {μ' : MS} (hB : BB X D cy b yX2_decode cX2_decode 7 none rmX2_decode) {l0 : Nat} {l1 : Nat} {μ : MS} {z : MS} (hf : f_X2_decode_98 l0 l1 μ = some z) (hk : (fun z : MS => r = none ∧ μ' = z) z) : WW X D cy b r μ' 7 0 0 98 [(0, .ref (b + l0)), (1, .ref (b + l1))] [] μ := by
  unfold f_X2_decode_98 at hf
  refine r_aload_n hB 0 rfl (by decide +kernel : decode cX2_decode 98 = .ok (.aload_n 0, 1)) rfl ?_
  refine r_aload_n hB 0 rfl (by decide +kernel : decode cX2_decode 99 = .ok (.aload_n 0, 1)) rfl ?_
  refine r_aload_n hB 1 rfl (by decide +kernel : decode cX2_decode 100 = .ok (.aload_n 1, 1)) rfl ?_
  refine r_cVi hB [.ref (b + l1)] [.ref (b + l0)] cf2 (own := "PulseRemote$Decoder") rfl cmX2_protocolOfShortFrame imX2_protocolOfShortFrame (Or.inl k_572) (by decide) rfl rfl rfl (Nat.le_of_ble_eq_true rfl) (by decide +kernel : decode cX2_decode 101 = .ok (.invokevirtual 54, 3)) (fun z hz => m_X2_protocolOfShortFrame _ _ _ _ hz) rfl hf (fun z101 hf => ?_)
  refine r_pI hB cf2 0 (by decide) (own := "PulseRemote$Decoder") rfl (Or.inl k_227) (Or.inl rfl) rfl (by decide +kernel : decode cX2_decode 104 = .ok (.putfield 9, 3)) hf (fun m104 hf => ?_)
  obtain rfl := Option.some.inj hf
  obtain ⟨rfl, rfl⟩ := hk
  exact r_vret hB (by decide +kernel : decode cX2_decode 107 = .ok (.return_, 1))
set_option maxHeartbeats 4000000 in
set_option maxRecDepth 100000 in
theorem t_X2_decode_85 {X : BX} {D : va_G} {cy : Nat → ClassId} {b : Nat} {r : Option Value} {μ' : MS} (hB : BB X D cy b yX2_decode cX2_decode 7 none rmX2_decode) {l0 : Nat} {l5 : Int32} {μ : MS} {z : MS} (hf : f_X2_decode_85 l0 l5 μ = some z) (hk : (fun z : MS => r = none ∧ μ' = z) z) : WW X D cy b r μ' 7 0 0 85 [(0, .ref (b + l0)), (5, .int l5)] [] μ := by
  unfold f_X2_decode_85 at hf
  refine r_aload_n hB 0 rfl (by decide +kernel : decode cX2_decode 85 = .ok (.aload_n 0, 1)) rfl ?_
  refine r_iload hB 1 rfl (by decide +kernel : decode cX2_decode 86 = .ok (.iload 5, 2)) ?_
  refine r_pI hB cf2 0 (by decide) (own := "PulseRemote$Decoder") rfl (Or.inl k_227) (Or.inl rfl) rfl (by decide +kernel : decode cX2_decode 88 = .ok (.putfield 9, 3)) hf (fun m88 hf => ?_)
  obtain rfl := Option.some.inj hf
  obtain ⟨rfl, rfl⟩ := hk
  exact r_vret hB (by decide +kernel : decode cX2_decode 91 = .ok (.return_, 1))
set_option maxHeartbeats 4000000 in
set_option maxRecDepth 100000 in
theorem t_X2_decode_73 {X : BX} {D : va_G} {cy : Nat → ClassId} {b : Nat} {r : Option Value} {μ' : MS} (hB : BB X D cy b yX2_decode cX2_decode 7 none rmX2_decode) {l0 : Nat} {l1 : Nat} {l5 : Int32} {s0 : Int32} {s1 : Nat} {μ : MS} {z : ((Nat × Nat × Int32 × MS) ⊕ MS)} (hf : f_X2_decode_73 l0 l1 l5 s0 s1 μ = some z) (hk : (Sum.elim (fun s : Nat × Nat × Int32 × MS => WW X D cy b r μ' 7 0 0 31 [(0, .ref (b + s.1)), (1, .ref (b + s.2.1)), (5, .int s.2.2.1)] [] s.2.2.2) (fun z : MS => r = none ∧ μ' = z)) z) : WW X D cy b r μ' 7 0 0 73 [(0, .ref (b + l0)), (1, .ref (b + l1)), (5, .int l5)] [.int s0, .ref (b + s1)] μ := by
  unfold f_X2_decode_73 at hf
  refine r_pI hB cf2 1 (by decide) (own := "PulseRemote$Decoder") rfl (Or.inl k_230) (Or.inl rfl) rfl (by decide +kernel : decode cX2_decode 73 = .ok (.putfield 15, 3)) hf (fun m73 hf => ?_)
  refine r_aload_n hB 0 rfl (by decide +kernel : decode cX2_decode 76 = .ok (.aload_n 0, 1)) rfl ?_
  refine r_gI hB cf2 1 (by decide) (own := "PulseRemote$Decoder") rfl (Or.inl k_230) (by decide +kernel) (by decide +kernel : decode cX2_decode 77 = .ok (.getfield 15, 3)) hf (fun x77 hf => ?_)
  refine r_bipush hB (v := (-9)) (by decide +kernel : decode cX2_decode 80 = .ok (.bipush (-9), 2)) (by decide +kernel) ?_
  refine r_icmp_eq hB (tgt := 92) (by decide +kernel : decode cX2_decode 82 = .ok (.if_icmp .eq 10, 3)) (by decide) hf (fun _ hf => ?_) (fun _ hf => ?_)
  · refine r_iincB hB 2 rfl (by decide +kernel : decode cX2_decode 92 = .ok (.iinc 5 1, 3)) (w := 1) (by decide +kernel) (by decide) hf (fun v92 hf => ?_)
    refine ww_lv (lv' := [(5, .int v92), (0, .ref (b + l0)), (1, .ref (b + l1))]) rfl ?_
    refine r_goto hB (tgt := 31) (by decide +kernel : decode cX2_decode 95 = .ok (.goto (-64), 3)) (by decide) ?_
    obtain rfl := Option.some.inj hf
    exact WW.sub [1, 2, 0] rfl hk
  · obtain ⟨_, hx0, rfl⟩ := xr_inv hf
    exact WW.sub [0, 2] rfl (t_X2_decode_85 hB hx0 hk)
set_option maxHeartbeats 4000000 in
set_option maxRecDepth 100000 in
theorem t_X2_decode_31_b {X : BX} {D : va_G} {cy : Nat → ClassId} {b : Nat} {r : Option Value} {μ' : MS} (hB : BB X D cy b yX2_decode cX2_decode 7 none rmX2_decode) {l0 : Nat} {l1 : Nat} {l5 : Int32} {μ : MS} {z : ((Nat × Nat × Int32 × MS) ⊕ MS)} (hf : f_X2_decode_31_b l0 l1 l5 μ = some z) (hk : (Sum.elim (fun s : Nat × Nat × Int32 × MS => WW X D cy b r μ' 7 0 0 31 [(0, .ref (b + s.1)), (1, .ref (b + s.2.1)), (5, .int s.2.2.1)] [] s.2.2.2) (fun z : MS => r = none ∧ μ' = z)) z) : WW X D cy b r μ' 7 0 0 31 [(0, .ref (b + l0)), (1, .ref (b + l1)), (5, .int l5)] [] μ := by
  unfold f_X2_decode_31_b at hf
  refine r_iload hB 2 rfl (by decide +kernel : decode cX2_decode 31 = .ok (.iload 5, 2)) ?_
  refine r_aload_n hB 1 rfl (by decide +kernel : decode cX2_decode 33 = .ok (.aload_n 1, 1)) rfl ?_
  refine r_gI hB cf8 1 (by decide) (own := "PulseRemote$Decoder") rfl (Or.inr ⟨_, k_112⟩) (by decide +kernel) (by decide +kernel : decode cX2_decode 34 = .ok (.getfield 33, 3)) hf (fun x34 hf => ?_)
  refine r_icmp_ge hB (tgt := 98) (by decide +kernel : decode cX2_decode 37 = .ok (.if_icmp .ge 61, 3)) (by decide) hf (fun _ hf => ?_) (fun _ hf => ?_)
  · obtain ⟨_, hx0, rfl⟩ := xr_inv hf
    exact WW.sub [0, 1] rfl (t_X2_decode_98 hB hx0 hk)
  · refine r_aload_n hB 1 rfl (by decide +kernel : decode cX2_decode 40 = .ok (.aload_n 1, 1)) rfl ?_
    refine r_iload hB 2 rfl (by decide +kernel : decode cX2_decode 41 = .ok (.iload 5, 2)) ?_
    refine r_cVr hB [.int l5] [] cf8 (own := "PulseRemote$Decoder") rfl cmX8_protocolAt imX8_protocolAt (Or.inl k_537) (by decide) rfl rfl rfl (Nat.le_of_ble_eq_true rfl) (by decide +kernel : decode cX2_decode 43 = .ok (.invokevirtual 38, 3)) (fun z hz => m_X8_protocolAt _ _ _ _ hz) rfl hf (fun z43 hf => ?_)
    refine r_astore hB (by decide +kernel : decode cX2_decode 46 = .ok (.astore 6, 2)) (by decide) rfl ?_
    refine ww_lv (lv' := [(6, .ref (b + z43.1)), (0, .ref (b + l0)), (1, .ref (b + l1)), (5, .int l5)]) rfl ?_
    refine r_aload_n hB 1 rfl (by decide +kernel : decode cX2_decode 48 = .ok (.aload_n 0, 1)) rfl ?_
    refine r_aload hB 0 rfl (by decide +kernel : decode cX2_decode 49 = .ok (.aload 6, 2)) ?_
    refine r_gI hB cf6 0 (by decide) (own := "PulseRemote$Decoder") rfl (Or.inr ⟨_, k_65⟩) (by decide +kernel) (by decide +kernel : decode cX2_decode 51 = .ok (.getfield 42, 3)) hf (fun x51 hf => ?_)
    refine r_iconst hB (v := 2) (by decide +kernel : decode cX2_decode 54 = .ok (.iconst 2, 1)) (by decide +kernel) ?_
    refine r_icmp_ne hB (tgt := 67) (by decide +kernel : decode cX2_decode 55 = .ok (.if_icmp .ne 12, 3)) (by decide) hf (fun _ hf => ?_) (fun _ hf => ?_)
    · refine r_aload_n hB 1 rfl (by decide +kernel : decode cX2_decode 58 = .ok (.aload_n 0, 1)) rfl ?_
      refine r_aload hB 0 rfl (by decide +kernel : decode cX2_decode 59 = .ok (.aload 6, 2)) ?_
      refine r_cVi hB [.ref (b + z43.1)] [.ref (b + l0)] cf2 (own := "PulseRemote$Decoder") rfl cmX2_phaseCode imX2_phaseCode (Or.inl k_541) (by decide) rfl rfl rfl (Nat.le_of_ble_eq_true rfl) (by decide +kernel : decode cX2_decode 61 = .ok (.invokevirtual 47, 3)) (fun z hz => m_X2_phaseCode _ _ _ _ hz) rfl hf (fun z61 hf => ?_)
      refine r_goto hB (tgt := 73) (by decide +kernel : decode cX2_decode 64 = .ok (.goto 9, 3)) (by decide) ?_
      exact WW.sub [1, 2, 3] rfl (t_X2_decode_73 hB hf hk)
    · refine r_aload_n hB 1 rfl (by decide +kernel : decode cX2_decode 67 = .ok (.aload_n 0, 1)) rfl ?_
      refine r_aload hB 0 rfl (by decide +kernel : decode cX2_decode 68 = .ok (.aload 6, 2)) ?_
      refine r_cVi hB [.ref (b + z43.1)] [.ref (b + l0)] cf2 (own := "PulseRemote$Decoder") rfl cmX2_plainCode imX2_plainCode (Or.inl k_568) (by decide) rfl rfl rfl (Nat.le_of_ble_eq_true rfl) (by decide +kernel : decode cX2_decode 70 = .ok (.invokevirtual 51, 3)) (fun z hz => m_X2_plainCode _ _ _ _ hz) rfl hf (fun z70 hf => ?_)
      exact WW.sub [1, 2, 3] rfl (t_X2_decode_73 hB hf hk)
set_option maxHeartbeats 4000000 in
set_option maxRecDepth 100000 in
theorem t_X2_decode_31 {X : BX} {D : va_G} {cy : Nat → ClassId} {b : Nat} {r : Option Value} {μ' : MS} (hB : BB X D cy b yX2_decode cX2_decode 7 none rmX2_decode) {l0 : Nat} {l1 : Nat} {l5 : Int32} {μ : MS} {z : MS} (hf : f_X2_decode_31 l0 l1 l5 μ = some z) (hk : (fun z : MS => r = none ∧ μ' = z) z) : WW X D cy b r μ' 7 0 0 31 [(0, .ref (b + l0)), (1, .ref (b + l1)), (5, .int l5)] [] μ :=
  lp_ind (P := fun s : Nat × Nat × Int32 × MS => WW X D cy b r μ' 7 0 0 31 [(0, .ref (b + s.1)), (1, .ref (b + s.2.1)), (5, .int s.2.2.1)] [] s.2.2.2) (Q := (fun z : MS => r = none ∧ μ' = z)) (fun s z hz hk => t_X2_decode_31_b hB hz hk) (l0, l1, l5, μ) z hf hk
set_option maxHeartbeats 4000000 in
set_option maxRecDepth 100000 in
theorem t_X2_decode_0 {X : BX} {D : va_G} {cy : Nat → ClassId} {b : Nat} {r : Option Value} {μ' : MS} (hB : BB X D cy b yX2_decode cX2_decode 7 none rmX2_decode) {l0 : Nat} {l1 : Nat} {l2 : Nat} {l3 : Int32} {l4 : Int32} {μ : MS} {z : MS} (hf : f_X2_decode l0 l1 l2 l3 l4 μ = some z) (hk : (fun z : MS => r = none ∧ μ' = z) z) : WW X D cy b r μ' 7 0 0 0 [(0, .ref (b + l0)), (1, .ref (b + l1)), (2, .ref (b + l2)), (3, .int l3), (4, .int l4)] [] μ := by
  unfold f_X2_decode at hf
  refine r_aload_n hB 0 rfl (by decide +kernel : decode cX2_decode 0 = .ok (.aload_n 0, 1)) rfl ?_
  refine r_iload hB 4 rfl (by decide +kernel : decode cX2_decode 1 = .ok (.iload 4, 2)) ?_
  refine r_pI hB cf2 4 (by decide) (own := "PulseRemote$Decoder") rfl (Or.inl k_235) (Or.inl rfl) rfl (by decide +kernel : decode cX2_decode 3 = .ok (.putfield 26, 3)) hf (fun m3 hf => ?_)
  refine r_aload_n hB 0 rfl (by decide +kernel : decode cX2_decode 6 = .ok (.aload_n 0, 1)) rfl ?_
  refine r_bipush hB (v := (-9)) (by decide +kernel : decode cX2_decode 7 = .ok (.bipush (-9), 2)) (by decide +kernel) ?_
  refine r_pI hB cf2 0 (by decide) (own := "PulseRemote$Decoder") rfl (Or.inl k_227) (Or.inl rfl) rfl (by decide +kernel : decode cX2_decode 9 = .ok (.putfield 9, 3)) hf (fun m9 hf => ?_)
  refine r_aload_n hB 0 rfl (by decide +kernel : decode cX2_decode 12 = .ok (.aload_n 0, 1)) rfl ?_
  refine r_bipush hB (v := (-9)) (by decide +kernel : decode cX2_decode 13 = .ok (.bipush (-9), 2)) (by decide +kernel) ?_
  refine r_pI hB cf2 1 (by decide) (own := "PulseRemote$Decoder") rfl (Or.inl k_230) (Or.inl rfl) rfl (by decide +kernel : decode cX2_decode 15 = .ok (.putfield 15, 3)) hf (fun m15 hf => ?_)
  refine r_aload_n hB 0 rfl (by decide +kernel : decode cX2_decode 18 = .ok (.aload_n 0, 1)) rfl ?_
  refine r_aload_n hB 2 rfl (by decide +kernel : decode cX2_decode 19 = .ok (.aload_n 2, 1)) rfl ?_
  refine r_iload_n hB 3 rfl (by decide +kernel : decode cX2_decode 20 = .ok (.iload_n 3, 1)) rfl ?_
  refine r_cVi hB [.ref (b + l2), .int l3] [] cf2 (own := "PulseRemote$Decoder") rfl cmX2_take imX2_take (Or.inl k_526) (by decide) rfl rfl rfl (Nat.le_of_ble_eq_true rfl) (by decide +kernel : decode cX2_decode 21 = .ok (.invokevirtual 29, 3)) (fun z hz => m_X2_take _ _ _ _ hz) rfl hf (fun z21 hf => ?_)
  refine r_if_ne hB (tgt := 28) (by decide +kernel : decode cX2_decode 24 = .ok (.ifCond .ne 4, 3)) (by decide) hf (fun _ hf => ?_) (fun _ hf => ?_)
  · obtain rfl := Option.some.inj hf
    obtain ⟨rfl, rfl⟩ := hk
    exact r_vret hB (by decide +kernel : decode cX2_decode 27 = .ok (.return_, 1))
  · refine r_iconst hB (v := 0) (by decide +kernel : decode cX2_decode 28 = .ok (.iconst 0, 1)) (by decide +kernel) ?_
    refine r_istore hB (by decide +kernel : decode cX2_decode 29 = .ok (.istore 5, 2)) (by decide) rfl ?_
    refine ww_lv (lv' := [(5, .int 0), (0, .ref (b + l0)), (1, .ref (b + l1)), (2, .ref (b + l2)), (3, .int l3), (4, .int l4)]) rfl ?_
    exact WW.sub [1, 2, 0] rfl (t_X2_decode_31 hB hf hk)
theorem m_X2_decode (l : Launch) (D : va_G) (cy : Nat → ClassId) (b : Nat) {l0 : Nat} {l1 : Nat} {l2 : Nat} {l3 : Int32} {l4 : Int32} {μ : MS} {z : MS} (hf : f_X2_decode l0 l1 l2 l3 l4 μ = some z) : Met l yX2_decode (.code yX2_decode cX2_decode 7 none :: GW) rmX2_decode (Pw D cy b [.ref (b + l0), .ref (b + l1), .ref (b + l2), .int l3, .int l4] μ) (Qw D cy b (none) (z)) rmX2_decode.cells rmX2_decode.slots (fun q => b ≤ q) :=
  met_of (by decide) (Nat.le_of_ble_eq_true rfl) (fun X hB _ => (t_X2_decode_0 hB hf ⟨rfl, rfl⟩))
-- PulseRemote$Decoder.isDecoded()Z
set_option maxHeartbeats 4000000 in
set_option maxRecDepth 100000 in
theorem t_X2_isDecoded_0 {X : BX} {D : va_G} {cy : Nat → ClassId} {b : Nat} {r : Option Value} {μ' : MS} (hB : BB X D cy b yX2_isDecoded cX2_isDecoded 1 (some .boolean) rmX2_isDecoded) {l0 : Nat} {μ : MS} {z : (Int32 × MS)} (hf : f_X2_isDecoded l0 μ = some z) (hk : (fun z : Int32 × MS => r = some (.int z.1) ∧ μ' = z.2) z) : WW X D cy b r μ' 1 0 0 0 [(0, .ref (b + l0))] [] μ := by
  unfold f_X2_isDecoded at hf
  refine r_aload_n hB 0 rfl (by decide +kernel : decode cX2_isDecoded 0 = .ok (.aload_n 0, 1)) rfl ?_
  refine r_gI hB cf2 0 (by decide) (own := "PulseRemote$Decoder") rfl (Or.inl k_227) (by decide +kernel) (by decide +kernel : decode cX2_isDecoded 1 = .ok (.getfield 9, 3)) hf (fun x1 hf => ?_)
  refine r_bipush hB (v := (-9)) (by decide +kernel : decode cX2_isDecoded 4 = .ok (.bipush (-9), 2)) (by decide +kernel) ?_
  refine r_icmp_eq hB (tgt := 13) (by decide +kernel : decode cX2_isDecoded 6 = .ok (.if_icmp .eq 7, 3)) (by decide) hf (fun _ hf => ?_) (fun _ hf => ?_)
  · refine r_iconst hB (v := 0) (by decide +kernel : decode cX2_isDecoded 13 = .ok (.iconst 0, 1)) (by decide +kernel) ?_
    obtain rfl := Option.some.inj hf
    obtain ⟨rfl, rfl⟩ := hk
    exact r_zret hB (Or.inl rfl) (by decide +kernel : decode cX2_isDecoded 14 = .ok (.ireturn, 1))
  · refine r_iconst hB (v := 1) (by decide +kernel : decode cX2_isDecoded 9 = .ok (.iconst 1, 1)) (by decide +kernel) ?_
    refine r_goto hB (tgt := 14) (by decide +kernel : decode cX2_isDecoded 10 = .ok (.goto 4, 3)) (by decide) ?_
    obtain rfl := Option.some.inj hf
    obtain ⟨rfl, rfl⟩ := hk
    exact r_zret hB (Or.inr rfl) (by decide +kernel : decode cX2_isDecoded 14 = .ok (.ireturn, 1))
theorem m_X2_isDecoded (l : Launch) (D : va_G) (cy : Nat → ClassId) (b : Nat) {l0 : Nat} {μ : MS} {z : Int32 × MS} (hf : f_X2_isDecoded l0 μ = some z) : Met l yX2_isDecoded (.code yX2_isDecoded cX2_isDecoded 1 (some .boolean) :: GW) rmX2_isDecoded (Pw D cy b [.ref (b + l0)] μ) (Qw D cy b (some (.int z.1)) (z.2)) rmX2_isDecoded.cells rmX2_isDecoded.slots (fun q => b ≤ q) :=
  met_of (by decide) (Nat.le_of_ble_eq_true rfl) (fun X hB _ => (t_X2_isDecoded_0 hB hf ⟨rfl, rfl⟩))
-- PulseRemote$Decoder.isCode()Z
set_option maxHeartbeats 4000000 in
set_option maxRecDepth 100000 in
theorem t_X2_isCode_0 {X : BX} {D : va_G} {cy : Nat → ClassId} {b : Nat} {r : Option Value} {μ' : MS} (hB : BB X D cy b yX2_isCode cX2_isCode 1 (some .boolean) rmX2_isCode) {l0 : Nat} {μ : MS} {z : (Int32 × MS)} (hf : f_X2_isCode l0 μ = some z) (hk : (fun z : Int32 × MS => r = some (.int z.1) ∧ μ' = z.2) z) : WW X D cy b r μ' 1 0 0 0 [(0, .ref (b + l0))] [] μ := by
  unfold f_X2_isCode at hf
  refine r_aload_n hB 0 rfl (by decide +kernel : decode cX2_isCode 0 = .ok (.aload_n 0, 1)) rfl ?_
  refine r_gI hB cf2 1 (by decide) (own := "PulseRemote$Decoder") rfl (Or.inl k_230) (by decide +kernel) (by decide +kernel : decode cX2_isCode 1 = .ok (.getfield 15, 3)) hf (fun x1 hf => ?_)
  refine r_bipush hB (v := (-9)) (by decide +kernel : decode cX2_isCode 4 = .ok (.bipush (-9), 2)) (by decide +kernel) ?_
  refine r_icmp_eq hB (tgt := 13) (by decide +kernel : decode cX2_isCode 6 = .ok (.if_icmp .eq 7, 3)) (by decide) hf (fun _ hf => ?_) (fun _ hf => ?_)
  · refine r_iconst hB (v := 0) (by decide +kernel : decode cX2_isCode 13 = .ok (.iconst 0, 1)) (by decide +kernel) ?_
    obtain rfl := Option.some.inj hf
    obtain ⟨rfl, rfl⟩ := hk
    exact r_zret hB (Or.inl rfl) (by decide +kernel : decode cX2_isCode 14 = .ok (.ireturn, 1))
  · refine r_iconst hB (v := 1) (by decide +kernel : decode cX2_isCode 9 = .ok (.iconst 1, 1)) (by decide +kernel) ?_
    refine r_goto hB (tgt := 14) (by decide +kernel : decode cX2_isCode 10 = .ok (.goto 4, 3)) (by decide) ?_
    obtain rfl := Option.some.inj hf
    obtain ⟨rfl, rfl⟩ := hk
    exact r_zret hB (Or.inr rfl) (by decide +kernel : decode cX2_isCode 14 = .ok (.ireturn, 1))
theorem m_X2_isCode (l : Launch) (D : va_G) (cy : Nat → ClassId) (b : Nat) {l0 : Nat} {μ : MS} {z : Int32 × MS} (hf : f_X2_isCode l0 μ = some z) : Met l yX2_isCode (.code yX2_isCode cX2_isCode 1 (some .boolean) :: GW) rmX2_isCode (Pw D cy b [.ref (b + l0)] μ) (Qw D cy b (some (.int z.1)) (z.2)) rmX2_isCode.cells rmX2_isCode.slots (fun q => b ≤ q) :=
  met_of (by decide) (Nat.le_of_ble_eq_true rfl) (fun X hB _ => (t_X2_isCode_0 hB hf ⟨rfl, rfl⟩))
-- PulseRemote.frame(III)I
set_option maxHeartbeats 4000000 in
set_option maxRecDepth 100000 in
theorem t_X11_frame_128 {X : BX} {D : va_G} {cy : Nat → ClassId} {b : Nat} {r : Option Value} {μ' : MS} (hB : BB X D cy b yX11_frame cX11_frame 4 (some .int) rmX11_frame) {l0 : Nat} {μ : MS} {z : (Int32 × MS)} (hf : f_X11_frame_128 l0 μ = some z) (hk : (fun z : Int32 × MS => r = some (.int z.1) ∧ μ' = z.2) z) : WW X D cy b r μ' 4 0 0 128 [(0, .ref (b + l0))] [] μ := by
  unfold f_X11_frame_128 at hf
  refine r_aload_n hB 0 rfl (by decide +kernel : decode cX11_frame 128 = .ok (.aload_n 0, 1)) rfl ?_
  refine r_gR hB cf11 8 (by decide) (own := "PulseRemote") rfl (Or.inl k_403) (by decide +kernel) (by decide +kernel : decode cX11_frame 129 = .ok (.getfield 55, 3)) hf (fun x129 hf => ?_)
  refine r_gI hB cf2 0 (by decide) (own := "PulseRemote") rfl (Or.inr ⟨_, k_229⟩) (by decide +kernel) (by decide +kernel : decode cX11_frame 132 = .ok (.getfield 302, 3)) hf (fun x132 hf => ?_)
  obtain rfl := Option.some.inj hf
  obtain ⟨rfl, rfl⟩ := hk
  exact r_iret hB (by decide +kernel : decode cX11_frame 135 = .ok (.ireturn, 1))
set_option maxHeartbeats 4000000 in
set_option maxRecDepth 100000 in
theorem t_X11_frame_0 {X : BX} {D : va_G} {cy : Nat → ClassId} {b : Nat} {r : Option Value} {μ' : MS} (hB : BB X D cy b yX11_frame cX11_frame 4 (some .int) rmX11_frame) {l0 : Nat} {l1 : Int32} {l2 : Int32} {l3 : Int32} {μ : MS} {z : (Int32 × MS)} (hf : f_X11_frame l0 l1 l2 l3 μ = some z) (hk : (fun z : Int32 × MS => r = some (.int z.1) ∧ μ' = z.2) z) : WW X D cy b r μ' 4 0 0 0 [(0, .ref (b + l0)), (1, .int l1), (2, .int l2), (3, .int l3)] [] μ := by
  unfold f_X11_frame at hf
  refine r_iload_n hB 1 rfl (by decide +kernel : decode cX11_frame 0 = .ok (.iload_n 1, 1)) rfl ?_
  refine r_cSi hB [.int l1] [] (own := "PulseRemote") rfl cmX11_isSlot smX11_isSlot (Or.inl ⟨rfl, k_485⟩) (by decide) rfl rfl rfl (Nat.le_of_ble_eq_true rfl) (by decide +kernel : decode cX11_frame 1 = .ok (.invokestatic 156, 3)) (fun z hz => m_X11_isSlot _ _ _ _ hz) rfl hf (fun z1 hf => ?_)
  refine r_if_eq hB (tgt := 20) (by decide +kernel : decode cX11_frame 4 = .ok (.ifCond .eq 16, 3)) (by decide) hf (fun _ hf => ?_) (fun _ hf => ?_)
  · refine r_iconst hB (v := (-1)) (by decide +kernel : decode cX11_frame 20 = .ok (.iconst (-1), 1)) (by decide +kernel) ?_
    obtain rfl := Option.some.inj hf
    obtain ⟨rfl, rfl⟩ := hk
    exact r_iret hB (by decide +kernel : decode cX11_frame 21 = .ok (.ireturn, 1))
  · refine r_iload_n hB 2 rfl (by decide +kernel : decode cX11_frame 7 = .ok (.iload_n 2, 1)) rfl ?_
    refine r_if_lt hB (tgt := 20) (by decide +kernel : decode cX11_frame 8 = .ok (.ifCond .lt 12, 3)) (by decide) hf (fun _ hf => ?_) (fun _ hf => ?_)
    · refine r_iconst hB (v := (-1)) (by decide +kernel : decode cX11_frame 20 = .ok (.iconst (-1), 1)) (by decide +kernel) ?_
      obtain rfl := Option.some.inj hf
      obtain ⟨rfl, rfl⟩ := hk
      exact r_iret hB (by decide +kernel : decode cX11_frame 21 = .ok (.ireturn, 1))
    · refine r_iload_n hB 3 rfl (by decide +kernel : decode cX11_frame 11 = .ok (.iload_n 3, 1)) rfl ?_
      refine r_iconst hB (v := 0) (by decide +kernel : decode cX11_frame 12 = .ok (.iconst 0, 1)) (by decide +kernel) ?_
      refine r_iconst hB (v := 4) (by decide +kernel : decode cX11_frame 13 = .ok (.iconst 4, 1)) (by decide +kernel) ?_
      refine r_cSi hB [.int l3, .int 0, .int 4] [] (own := "PulseRemote") rfl cmX11_inRange smX11_inRange (Or.inl ⟨rfl, k_440⟩) (by decide) rfl rfl rfl (Nat.le_of_ble_eq_true rfl) (by decide +kernel : decode cX11_frame 14 = .ok (.invokestatic 80, 3)) (fun z hz => m_X11_inRange _ _ _ _ hz) rfl hf (fun z14 hf => ?_)
      refine r_if_ne hB (tgt := 22) (by decide +kernel : decode cX11_frame 17 = .ok (.ifCond .ne 5, 3)) (by decide) hf (fun _ hf => ?_) (fun _ hf => ?_)
      · refine r_iconst hB (v := (-1)) (by decide +kernel : decode cX11_frame 20 = .ok (.iconst (-1), 1)) (by decide +kernel) ?_
        obtain rfl := Option.some.inj hf
        obtain ⟨rfl, rfl⟩ := hk
        exact r_iret hB (by decide +kernel : decode cX11_frame 21 = .ok (.ireturn, 1))
      · refine r_aload_n hB 0 rfl (by decide +kernel : decode cX11_frame 22 = .ok (.aload_n 0, 1)) rfl ?_
        refine r_gR hB cf11 7 (by decide) (own := "PulseRemote") rfl (Or.inl k_402) (by decide +kernel) (by decide +kernel : decode cX11_frame 23 = .ok (.getfield 48, 3)) hf (fun x23 hf => ?_)
        refine r_aload_n hB 0 rfl (by decide +kernel : decode cX11_frame 26 = .ok (.aload_n 0, 1)) rfl ?_
        refine r_gR hB cf11 0 (by decide) (own := "PulseRemote") rfl (Or.inl k_395) (by decide +kernel) (by decide +kernel : decode cX11_frame 27 = .ok (.getfield 12, 3)) hf (fun x27 hf => ?_)
        refine r_iload_n hB 1 rfl (by decide +kernel : decode cX11_frame 30 = .ok (.iload_n 1, 1)) rfl ?_
        refine r_cVr hB [.int l1] [.ref (b + x23)] cf7 (own := "PulseRemote") rfl cmX7_trainAt imX7_trainAt (Or.inl k_488) (by decide) rfl rfl rfl (Nat.le_of_ble_eq_true rfl) (by decide +kernel : decode cX11_frame 31 = .ok (.invokevirtual 159, 3)) (fun z hz => m_X7_trainAt _ _ _ _ hz) rfl hf (fun z31 hf => ?_)
        refine r_aload_n hB 0 rfl (by decide +kernel : decode cX11_frame 34 = .ok (.aload_n 0, 1)) rfl ?_
        refine r_gR hB cf11 0 (by decide) (own := "PulseRemote") rfl (Or.inl k_395) (by decide +kernel) (by decide +kernel : decode cX11_frame 35 = .ok (.getfield 12, 3)) hf (fun x35 hf => ?_)
        refine r_gI hB cf7 2 (by decide) (own := "PulseRemote") rfl (Or.inr ⟨_, k_154⟩) (by decide +kernel) (by decide +kernel : decode cX11_frame 38 = .ok (.getfield 163, 3)) hf (fun x38 hf => ?_)
        refine r_cVv hB [.ref (b + z31.1), .int x38] [] cf3 (own := "PulseRemote") rfl cmX3_split imX3_split (Or.inl k_493) (by decide) rfl rfl rfl (Nat.le_of_ble_eq_true rfl) (by decide +kernel : decode cX11_frame 41 = .ok (.invokevirtual 166, 3)) (fun z hz => m_X3_split _ _ _ _ hz) rfl hf (fun z41 hf => ?_)
        refine r_iload_n hB 2 rfl (by decide +kernel : decode cX11_frame 44 = .ok (.iload_n 2, 1)) rfl ?_
        refine r_aload_n hB 0 rfl (by decide +kernel : decode cX11_frame 45 = .ok (.aload_n 0, 1)) rfl ?_
        refine r_gR hB cf11 7 (by decide) (own := "PulseRemote") rfl (Or.inl k_402) (by decide +kernel) (by decide +kernel : decode cX11_frame 46 = .ok (.getfield 48, 3)) hf (fun x46 hf => ?_)
        refine r_gI hB cf3 2 (by decide) (own := "PulseRemote") rfl (Or.inr ⟨_, k_210⟩) (by decide +kernel) (by decide +kernel : decode cX11_frame 49 = .ok (.getfield 286, 3)) hf (fun x49 hf => ?_)
        refine r_icmp_lt hB (tgt := 58) (by decide +kernel : decode cX11_frame 52 = .ok (.if_icmp .lt 6, 3)) (by decide) hf (fun _ hf => ?_) (fun _ hf => ?_)
        · refine r_iload_n hB 3 rfl (by decide +kernel : decode cX11_frame 58 = .ok (.iload_n 3, 1)) rfl ?_
          refine r_iconst hB (v := 2) (by decide +kernel : decode cX11_frame 59 = .ok (.iconst 2, 1)) (by decide +kernel) ?_
          refine r_icmp_ge hB (tgt := 87) (by decide +kernel : decode cX11_frame 60 = .ok (.if_icmp .ge 27, 3)) (by decide) hf (fun _ hf => ?_) (fun _ hf => ?_)
          · refine r_aload_n hB 0 rfl (by decide +kernel : decode cX11_frame 87 = .ok (.aload_n 0, 1)) rfl ?_
            refine r_gR hB cf11 8 (by decide) (own := "PulseRemote") rfl (Or.inl k_403) (by decide +kernel) (by decide +kernel : decode cX11_frame 88 = .ok (.getfield 55, 3)) hf (fun x88 hf => ?_)
            refine r_aload_n hB 0 rfl (by decide +kernel : decode cX11_frame 91 = .ok (.aload_n 0, 1)) rfl ?_
            refine r_gR hB cf11 0 (by decide) (own := "PulseRemote") rfl (Or.inl k_395) (by decide +kernel) (by decide +kernel : decode cX11_frame 92 = .ok (.getfield 12, 3)) hf (fun x92 hf => ?_)
            refine r_gR hB cf7 0 (by decide) (own := "PulseRemote") rfl (Or.inr ⟨_, k_150⟩) (by decide +kernel) (by decide +kernel : decode cX11_frame 95 = .ok (.getfield 84, 3)) hf (fun x95 hf => ?_)
            refine r_aload_n hB 0 rfl (by decide +kernel : decode cX11_frame 98 = .ok (.aload_n 0, 1)) rfl ?_
            refine r_gR hB cf11 7 (by decide) (own := "PulseRemote") rfl (Or.inl k_402) (by decide +kernel) (by decide +kernel : decode cX11_frame 99 = .ok (.getfield 48, 3)) hf (fun x99 hf => ?_)
            refine r_iload_n hB 2 rfl (by decide +kernel : decode cX11_frame 102 = .ok (.iload_n 2, 1)) rfl ?_
            refine r_aload_n hB 0 rfl (by decide +kernel : decode cX11_frame 103 = .ok (.aload_n 0, 1)) rfl ?_
            refine r_gR hB cf11 0 (by decide) (own := "PulseRemote") rfl (Or.inl k_395) (by decide +kernel) (by decide +kernel : decode cX11_frame 104 = .ok (.getfield 12, 3)) hf (fun x104 hf => ?_)
            refine r_gI hB cf7 4 (by decide) (own := "PulseRemote") rfl (Or.inr ⟨_, k_160⟩) (by decide +kernel) (by decide +kernel : decode cX11_frame 107 = .ok (.getfield 226, 3)) hf (fun x107 hf => ?_)
            refine r_cVv hB [.ref (b + x95), .ref (b + x99), .int l2, .int x107] [] cf2 (own := "PulseRemote") rfl cmX2_decode imX2_decode (Or.inl k_522) (by decide) rfl rfl rfl (Nat.le_of_ble_eq_true rfl) (by decide +kernel : decode cX11_frame 110 = .ok (.invokevirtual 295, 3)) (fun z hz => m_X2_decode _ _ _ _ hz) rfl hf (fun z110 hf => ?_)
            refine r_iload_n hB 3 rfl (by decide +kernel : decode cX11_frame 113 = .ok (.iload_n 3, 1)) rfl ?_
            refine r_iconst hB (v := 2) (by decide +kernel : decode cX11_frame 114 = .ok (.iconst 2, 1)) (by decide +kernel) ?_
            refine r_icmp_eq hB (tgt := 128) (by decide +kernel : decode cX11_frame 115 = .ok (.if_icmp .eq 13, 3)) (by decide) hf (fun _ hf => ?_) (fun _ hf => ?_)
            · exact WW.sub [0] rfl (t_X11_frame_128 hB hf hk)
            · refine r_aload_n hB 0 rfl (by decide +kernel : decode cX11_frame 118 = .ok (.aload_n 0, 1)) rfl ?_
              refine r_gR hB cf11 8 (by decide) (own := "PulseRemote") rfl (Or.inl k_403) (by decide +kernel) (by decide +kernel : decode cX11_frame 119 = .ok (.getfield 55, 3)) hf (fun x119 hf => ?_)
              refine r_cVi hB [] [] cf2 (own := "PulseRemote") rfl cmX2_isDecoded imX2_isDecoded (Or.inl k_576) (by decide) rfl rfl rfl (Nat.le_of_ble_eq_true rfl) (by decide +kernel : decode cX11_frame 122 = .ok (.invokevirtual 299, 3)) (fun z hz => m_X2_isDecoded _ _ _ _ hz) rfl hf (fun z122 hf => ?_)
              refine r_if_ne hB (tgt := 136) (by decide +kernel : decode cX11_frame 125 = .ok (.ifCond .ne 11, 3)) (by decide) hf (fun _ hf => ?_) (fun _ hf => ?_)
              · exact WW.sub [0] rfl (t_X11_frame_128 hB hf hk)
              · refine r_iload_n hB 3 rfl (by decide +kernel : decode cX11_frame 136 = .ok (.iload_n 3, 1)) rfl ?_
                refine r_iconst hB (v := 3) (by decide +kernel : decode cX11_frame 137 = .ok (.iconst 3, 1)) (by decide +kernel) ?_
                refine r_icmp_ne hB (tgt := 149) (by decide +kernel : decode cX11_frame 138 = .ok (.if_icmp .ne 11, 3)) (by decide) hf (fun _ hf => ?_) (fun _ hf => ?_)
                · refine r_aload_n hB 0 rfl (by decide +kernel : decode cX11_frame 141 = .ok (.aload_n 0, 1)) rfl ?_
                  refine r_gR hB cf11 8 (by decide) (own := "PulseRemote") rfl (Or.inl k_403) (by decide +kernel) (by decide +kernel : decode cX11_frame 142 = .ok (.getfield 55, 3)) hf (fun x142 hf => ?_)
                  refine r_gI hB cf2 1 (by decide) (own := "PulseRemote") rfl (Or.inr ⟨_, k_232⟩) (by decide +kernel) (by decide +kernel : decode cX11_frame 145 = .ok (.getfield 305, 3)) hf (fun x145 hf => ?_)
                  obtain rfl := Option.some.inj hf
                  obtain ⟨rfl, rfl⟩ := hk
                  exact r_iret hB (by decide +kernel : decode cX11_frame 148 = .ok (.ireturn, 1))
                · refine r_aload_n hB 0 rfl (by decide +kernel : decode cX11_frame 149 = .ok (.aload_n 0, 1)) rfl ?_
                  refine r_gR hB cf11 8 (by decide) (own := "PulseRemote") rfl (Or.inl k_403) (by decide +kernel) (by decide +kernel : decode cX11_frame 150 = .ok (.getfield 55, 3)) hf (fun x150 hf => ?_)
                  refine r_cVi hB [] [] cf2 (own := "PulseRemote") rfl cmX2_isCode imX2_isCode (Or.inl k_580) (by decide) rfl rfl rfl (Nat.le_of_ble_eq_true rfl) (by decide +kernel : decode cX11_frame 153 = .ok (.invokevirtual 308, 3)) (fun z hz => m_X2_isCode _ _ _ _ hz) rfl hf (fun z153 hf => ?_)
                  refine r_if_eq hB (tgt := 163) (by decide +kernel : decode cX11_frame 156 = .ok (.ifCond .eq 7, 3)) (by decide) hf (fun _ hf => ?_) (fun _ hf => ?_)
                  · refine r_iconst hB (v := 1) (by decide +kernel : decode cX11_frame 163 = .ok (.iconst 1, 1)) (by decide +kernel) ?_
                    obtain rfl := Option.some.inj hf
                    obtain ⟨rfl, rfl⟩ := hk
                    exact r_iret hB (by decide +kernel : decode cX11_frame 164 = .ok (.ireturn, 1))
                  · refine r_iconst hB (v := 0) (by decide +kernel : decode cX11_frame 159 = .ok (.iconst 0, 1)) (by decide +kernel) ?_
                    refine r_goto hB (tgt := 164) (by decide +kernel : decode cX11_frame 160 = .ok (.goto 4, 3)) (by decide) ?_
                    obtain rfl := Option.some.inj hf
                    obtain ⟨rfl, rfl⟩ := hk
                    exact r_iret hB (by decide +kernel : decode cX11_frame 164 = .ok (.ireturn, 1))
          · refine r_iload_n hB 3 rfl (by decide +kernel : decode cX11_frame 63 = .ok (.iload_n 3, 1)) rfl ?_
            refine r_if_ne hB (tgt := 78) (by decide +kernel : decode cX11_frame 64 = .ok (.ifCond .ne 14, 3)) (by decide) hf (fun _ hf => ?_) (fun _ hf => ?_)
            · refine r_aload_n hB 0 rfl (by decide +kernel : decode cX11_frame 67 = .ok (.aload_n 0, 1)) rfl ?_
              refine r_gR hB cf11 7 (by decide) (own := "PulseRemote") rfl (Or.inl k_402) (by decide +kernel) (by decide +kernel : decode cX11_frame 68 = .ok (.getfield 48, 3)) hf (fun x68 hf => ?_)
              refine r_iload_n hB 2 rfl (by decide +kernel : decode cX11_frame 71 = .ok (.iload_n 2, 1)) rfl ?_
              refine r_cVi hB [.int l2] [] cf3 (own := "PulseRemote") rfl cmX3_startOf imX3_startOf (Or.inl k_514) (by decide) rfl rfl rfl (Nat.le_of_ble_eq_true rfl) (by decide +kernel : decode cX11_frame 72 = .ok (.invokevirtual 289, 3)) (fun z hz => m_X3_startOf _ _ _ _ hz) rfl hf (fun z72 hf => ?_)
              refine r_goto hB (tgt := 86) (by decide +kernel : decode cX11_frame 75 = .ok (.goto 11, 3)) (by decide) ?_
              obtain rfl := Option.some.inj hf
              obtain ⟨rfl, rfl⟩ := hk
              exact r_iret hB (by decide +kernel : decode cX11_frame 86 = .ok (.ireturn, 1))
            · refine r_aload_n hB 0 rfl (by decide +kernel : decode cX11_frame 78 = .ok (.aload_n 0, 1)) rfl ?_
              refine r_gR hB cf11 7 (by decide) (own := "PulseRemote") rfl (Or.inl k_402) (by decide +kernel) (by decide +kernel : decode cX11_frame 79 = .ok (.getfield 48, 3)) hf (fun x79 hf => ?_)
              refine r_iload_n hB 2 rfl (by decide +kernel : decode cX11_frame 82 = .ok (.iload_n 2, 1)) rfl ?_
              refine r_cVi hB [.int l2] [] cf3 (own := "PulseRemote") rfl cmX3_sizeOf imX3_sizeOf (Or.inl k_518) (by decide) rfl rfl rfl (Nat.le_of_ble_eq_true rfl) (by decide +kernel : decode cX11_frame 83 = .ok (.invokevirtual 292, 3)) (fun z hz => m_X3_sizeOf _ _ _ _ hz) rfl hf (fun z83 hf => ?_)
              obtain rfl := Option.some.inj hf
              obtain ⟨rfl, rfl⟩ := hk
              exact r_iret hB (by decide +kernel : decode cX11_frame 86 = .ok (.ireturn, 1))
        · refine r_bipush hB (v := (-9)) (by decide +kernel : decode cX11_frame 55 = .ok (.bipush (-9), 2)) (by decide +kernel) ?_
          obtain rfl := Option.some.inj hf
          obtain ⟨rfl, rfl⟩ := hk
          exact r_iret hB (by decide +kernel : decode cX11_frame 57 = .ok (.ireturn, 1))
theorem m_X11_frame (l : Launch) (D : va_G) (cy : Nat → ClassId) (b : Nat) {l0 : Nat} {l1 : Int32} {l2 : Int32} {l3 : Int32} {μ : MS} {z : Int32 × MS} (hf : f_X11_frame l0 l1 l2 l3 μ = some z) : Met l yX11_frame (.code yX11_frame cX11_frame 4 (some .int) :: GW) rmX11_frame (Pw D cy b [.ref (b + l0), .int l1, .int l2, .int l3] μ) (Qw D cy b (some (.int z.1)) (z.2)) rmX11_frame.cells rmX11_frame.slots (fun q => b ≤ q) :=
  met_of (by decide) (Nat.le_of_ble_eq_true rfl) (fun X hB _ => (t_X11_frame_0 hB hf ⟨rfl, rfl⟩))
-- PulseRemote.worstDeviation(ILPulseRemote$Train;)I
set_option maxHeartbeats 4000000 in
set_option maxRecDepth 100000 in
theorem t_X11_worstDeviation_61 {X : BX} {D : va_G} {cy : Nat → ClassId} {b : Nat} {r : Option Value} {μ' : MS} (hB : BB X D cy b yX11_worstDeviation cX11_worstDeviation 6 (some .int) rmX11_worstDeviation) {l3 : Int32} {μ : MS} {z : (Int32 × MS)} (hf : f_X11_worstDeviation_61 l3 μ = some z) (hk : (fun z : Int32 × MS => r = some (.int z.1) ∧ μ' = z.2) z) : WW X D cy b r μ' 6 0 0 61 [(3, .int l3)] [] μ := by
  unfold f_X11_worstDeviation_61 at hf
  refine r_iload_n hB 0 rfl (by decide +kernel : decode cX11_worstDeviation 61 = .ok (.iload_n 3, 1)) rfl ?_
  obtain rfl := Option.some.inj hf
  obtain ⟨rfl, rfl⟩ := hk
  exact r_iret hB (by decide +kernel : decode cX11_worstDeviation 62 = .ok (.ireturn, 1))
set_option maxHeartbeats 4000000 in
set_option maxRecDepth 100000 in
theorem t_X11_worstDeviation_55 {X : BX} {D : va_G} {cy : Nat → ClassId} {b : Nat} {r : Option Value} {μ' : MS} (hB : BB X D cy b yX11_worstDeviation cX11_worstDeviation 6 (some .int) rmX11_worstDeviation) {l0 : Nat} {l1 : Int32} {l2 : Nat} {l3 : Int32} {l4 : Int32} {μ : MS} {z : ((Nat × Int32 × Nat × Int32 × Int32 × MS) ⊕ (Int32 × MS))} (hf : f_X11_worstDeviation_55 l0 l1 l2 l3 l4 μ = some z) (hk : (Sum.elim (fun s : Nat × Int32 × Nat × Int32 × Int32 × MS => WW X D cy b r μ' 6 0 0 5 [(0, .ref (b + s.1)), (1, .int s.2.1), (2, .ref (b + s.2.2.1)), (3, .int s.2.2.2.1), (4, .int s.2.2.2.2.1)] [] s.2.2.2.2.2) (fun z : Int32 × MS => r = some (.int z.1) ∧ μ' = z.2)) z) : WW X D cy b r μ' 6 0 0 55 [(0, .ref (b + l0)), (1, .int l1), (2, .ref (b + l2)), (3, .int l3), (4, .int l4)] [] μ := by
  unfold f_X11_worstDeviation_55 at hf
  refine r_iincB hB 4 rfl (by decide +kernel : decode cX11_worstDeviation 55 = .ok (.iinc 4 1, 3)) (w := 1) (by decide +kernel) (by decide) hf (fun v55 hf => ?_)
  refine ww_lv (lv' := [(4, .int v55), (0, .ref (b + l0)), (1, .int l1), (2, .ref (b + l2)), (3, .int l3)]) rfl ?_
  refine r_goto hB (tgt := 5) (by decide +kernel : decode cX11_worstDeviation 58 = .ok (.goto (-53), 3)) (by decide) ?_
  obtain rfl := Option.some.inj hf
  exact WW.sub [1, 2, 3, 4, 0] rfl hk
set_option maxHeartbeats 4000000 in
set_option maxRecDepth 100000 in
theorem t_X11_worstDeviation_5_b {X : BX} {D : va_G} {cy : Nat → ClassId} {b : Nat} {r : Option Value} {μ' : MS} (hB : BB X D cy b yX11_worstDeviation cX11_worstDeviation 6 (some .int) rmX11_worstDeviation) {l0 : Nat} {l1 : Int32} {l2 : Nat} {l3 : Int32} {l4 : Int32} {μ : MS} {z : ((Nat × Int32 × Nat × Int32 × Int32 × MS) ⊕ (Int32 × MS))} (hf : f_X11_worstDeviation_5_b l0 l1 l2 l3 l4 μ = some z) (hk : (Sum.elim (fun s : Nat × Int32 × Nat × Int32 × Int32 × MS => WW X D cy b r μ' 6 0 0 5 [(0, .ref (b + s.1)), (1, .int s.2.1), (2, .ref (b + s.2.2.1)), (3, .int s.2.2.2.1), (4, .int s.2.2.2.2.1)] [] s.2.2.2.2.2) (fun z : Int32 × MS => r = some (.int z.1) ∧ μ' = z.2)) z) : WW X D cy b r μ' 6 0 0 5 [(0, .ref (b + l0)), (1, .int l1), (2, .ref (b + l2)), (3, .int l3), (4, .int l4)] [] μ := by
  unfold f_X11_worstDeviation_5_b at hf
  refine r_iload hB 4 rfl (by decide +kernel : decode cX11_worstDeviation 5 = .ok (.iload 4, 2)) ?_
  refine r_aload_n hB 2 rfl (by decide +kernel : decode cX11_worstDeviation 7 = .ok (.aload_n 2, 1)) rfl ?_
  refine r_gI hB cf10 1 (by decide) (own := "PulseRemote") rfl (Or.inr ⟨_, k_142⟩) (by decide +kernel) (by decide +kernel : decode cX11_worstDeviation 8 = .ok (.getfield 244, 3)) hf (fun x8 hf => ?_)
  refine r_icmp_ge hB (tgt := 61) (by decide +kernel : decode cX11_worstDeviation 11 = .ok (.if_icmp .ge 50, 3)) (by decide) hf (fun _ hf => ?_) (fun _ hf => ?_)
  · obtain ⟨_, hx0, rfl⟩ := xr_inv hf
    exact WW.sub [3] rfl (t_X11_worstDeviation_61 hB hx0 hk)
  · refine r_aload_n hB 2 rfl (by decide +kernel : decode cX11_worstDeviation 14 = .ok (.aload_n 2, 1)) rfl ?_
    refine r_iload hB 4 rfl (by decide +kernel : decode cX11_worstDeviation 15 = .ok (.iload 4, 2)) ?_
    refine r_cVi hB [.int l4] [] cf10 (own := "PulseRemote") rfl cmX10_at imX10_at (Or.inl k_617) (by decide) rfl rfl rfl (Nat.le_of_ble_eq_true rfl) (by decide +kernel : decode cX11_worstDeviation 17 = .ok (.invokevirtual 283, 3)) (fun z hz => m_X10_at _ _ _ _ hz) rfl hf (fun z17 hf => ?_)
    refine r_istore hB (by decide +kernel : decode cX11_worstDeviation 20 = .ok (.istore 5, 2)) (by decide) rfl ?_
    refine ww_lv (lv' := [(5, .int z17.1), (0, .ref (b + l0)), (1, .int l1), (2, .ref (b + l2)), (3, .int l3), (4, .int l4)]) rfl ?_
    refine r_iload hB 0 rfl (by decide +kernel : decode cX11_worstDeviation 22 = .ok (.iload 5, 2)) ?_
    refine r_if_le hB (tgt := 55) (by decide +kernel : decode cX11_worstDeviation 24 = .ok (.ifCond .le 31, 3)) (by decide) hf (fun _ hf => ?_) (fun _ hf => ?_)
    · exact WW.sub [1, 2, 3, 4, 5] rfl (t_X11_worstDeviation_55 hB hf hk)
    · refine r_iload_n hB 4 rfl (by decide +kernel : decode cX11_worstDeviation 27 = .ok (.iload_n 3, 1)) rfl ?_
      refine r_sipush hB (v := 1000) (by decide +kernel : decode cX11_worstDeviation 28 = .ok (.sipush 1000, 3)) (by decide +kernel) ?_
      refine r_aload_n hB 1 rfl (by decide +kernel : decode cX11_worstDeviation 31 = .ok (.aload_n 0, 1)) rfl ?_
      refine r_gR hB cf11 7 (by decide) (own := "PulseRemote") rfl (Or.inl k_402) (by decide +kernel) (by decide +kernel : decode cX11_worstDeviation 32 = .ok (.getfield 48, 3)) hf (fun x32 hf => ?_)
      refine r_iload_n hB 2 rfl (by decide +kernel : decode cX11_worstDeviation 35 = .ok (.iload_n 1, 1)) rfl ?_
      refine r_iload hB 5 rfl (by decide +kernel : decode cX11_worstDeviation 36 = .ok (.iload 4, 2)) ?_
      refine r_cVi hB [.int l1, .int l4] [.int 1000, .int l3] cf3 (own := "PulseRemote") rfl cmX3_durationAt imX3_durationAt (Or.inl k_618) (by decide) rfl rfl rfl (Nat.le_of_ble_eq_true rfl) (by decide +kernel : decode cX11_worstDeviation 38 = .ok (.invokevirtual 360, 3)) (fun z hz => m_X3_durationAt _ _ _ _ hz) rfl hf (fun z38 hf => ?_)
      refine r_iload hB 0 rfl (by decide +kernel : decode cX11_worstDeviation 41 = .ok (.iload 5, 2)) ?_
      refine r_isub hB (by decide +kernel : decode cX11_worstDeviation 43 = .ok (.isub, 1)) ?_
      refine r_abs hB (own := "PulseRemote") rfl k_619 k_620 k_34 k_621 (by decide +kernel : decode cX11_worstDeviation 44 = .ok (.invokestatic 363, 3)) (by decide) (Nat.le_of_ble_eq_true rfl) ?_
      refine r_imul hB (by decide +kernel : decode cX11_worstDeviation 47 = .ok (.imul, 1)) ?_
      refine r_iload hB 0 rfl (by decide +kernel : decode cX11_worstDeviation 48 = .ok (.iload 5, 2)) ?_
      refine r_idiv hB (by decide +kernel : decode cX11_worstDeviation 50 = .ok (.idiv, 1)) hf (fun v50 hf => ?_)
      refine r_max hB (own := "PulseRemote") rfl k_622 k_475 k_34 k_476 (by decide +kernel : decode cX11_worstDeviation 51 = .ok (.invokestatic 368, 3)) (by decide) (Nat.le_of_ble_eq_true rfl) ?_
      refine r_name hf (fun v54 hf => ?_)
      refine r_istore_n hB (by decide +kernel : decode cX11_worstDeviation 54 = .ok (.istore_n 3, 1)) rfl (by decide) rfl ?_
      refine ww_lv (lv' := [(3, .int v54), (5, .int z17.1), (0, .ref (b + l0)), (1, .int l1), (2, .ref (b + l2)), (4, .int l4)]) rfl ?_
      exact WW.sub [2, 3, 4, 0, 5] rfl (t_X11_worstDeviation_55 hB hf hk)
set_option maxHeartbeats 4000000 in
set_option maxRecDepth 100000 in
theorem t_X11_worstDeviation_5 {X : BX} {D : va_G} {cy : Nat → ClassId} {b : Nat} {r : Option Value} {μ' : MS} (hB : BB X D cy b yX11_worstDeviation cX11_worstDeviation 6 (some .int) rmX11_worstDeviation) {l0 : Nat} {l1 : Int32} {l2 : Nat} {l3 : Int32} {l4 : Int32} {μ : MS} {z : (Int32 × MS)} (hf : f_X11_worstDeviation_5 l0 l1 l2 l3 l4 μ = some z) (hk : (fun z : Int32 × MS => r = some (.int z.1) ∧ μ' = z.2) z) : WW X D cy b r μ' 6 0 0 5 [(0, .ref (b + l0)), (1, .int l1), (2, .ref (b + l2)), (3, .int l3), (4, .int l4)] [] μ :=
  lp_ind (P := fun s : Nat × Int32 × Nat × Int32 × Int32 × MS => WW X D cy b r μ' 6 0 0 5 [(0, .ref (b + s.1)), (1, .int s.2.1), (2, .ref (b + s.2.2.1)), (3, .int s.2.2.2.1), (4, .int s.2.2.2.2.1)] [] s.2.2.2.2.2) (Q := (fun z : Int32 × MS => r = some (.int z.1) ∧ μ' = z.2)) (fun s z hz hk => t_X11_worstDeviation_5_b hB hz hk) (l0, l1, l2, l3, l4, μ) z hf hk
set_option maxHeartbeats 4000000 in
set_option maxRecDepth 100000 in
theorem t_X11_worstDeviation_0 {X : BX} {D : va_G} {cy : Nat → ClassId} {b : Nat} {r : Option Value} {μ' : MS} (hB : BB X D cy b yX11_worstDeviation cX11_worstDeviation 6 (some .int) rmX11_worstDeviation) {l0 : Nat} {l1 : Int32} {l2 : Nat} {μ : MS} {z : (Int32 × MS)} (hf : f_X11_worstDeviation l0 l1 l2 μ = some z) (hk : (fun z : Int32 × MS => r = some (.int z.1) ∧ μ' = z.2) z) : WW X D cy b r μ' 6 0 0 0 [(0, .ref (b + l0)), (1, .int l1), (2, .ref (b + l2))] [] μ := by
  unfold f_X11_worstDeviation at hf
  refine r_iconst hB (v := 0) (by decide +kernel : decode cX11_worstDeviation 0 = .ok (.iconst 0, 1)) (by decide +kernel) ?_
  refine r_istore_n hB (by decide +kernel : decode cX11_worstDeviation 1 = .ok (.istore_n 3, 1)) rfl (by decide) rfl ?_
  refine ww_lv (lv' := [(3, .int 0), (0, .ref (b + l0)), (1, .int l1), (2, .ref (b + l2))]) rfl ?_
  refine r_iconst hB (v := 0) (by decide +kernel : decode cX11_worstDeviation 2 = .ok (.iconst 0, 1)) (by decide +kernel) ?_
  refine r_istore hB (by decide +kernel : decode cX11_worstDeviation 3 = .ok (.istore 4, 2)) (by decide) rfl ?_
  refine ww_lv (lv' := [(4, .int 0), (3, .int 0), (0, .ref (b + l0)), (1, .int l1), (2, .ref (b + l2))]) rfl ?_
  exact WW.sub [2, 3, 4, 1, 0] rfl (t_X11_worstDeviation_5 hB hf hk)
theorem m_X11_worstDeviation (l : Launch) (D : va_G) (cy : Nat → ClassId) (b : Nat) {l0 : Nat} {l1 : Int32} {l2 : Nat} {μ : MS} {z : Int32 × MS} (hf : f_X11_worstDeviation l0 l1 l2 μ = some z) : Met l yX11_worstDeviation (.code yX11_worstDeviation cX11_worstDeviation 6 (some .int) :: GW) rmX11_worstDeviation (Pw D cy b [.ref (b + l0), .int l1, .ref (b + l2)] μ) (Qw D cy b (some (.int z.1)) (z.2)) rmX11_worstDeviation.cells rmX11_worstDeviation.slots (fun q => b ≤ q) :=
  met_of (by decide) (Nat.le_of_ble_eq_true rfl) (fun X hB _ => (t_X11_worstDeviation_0 hB hf ⟨rfl, rfl⟩))
-- PulseRemote.deviation(II)I
set_option maxHeartbeats 4000000 in
set_option maxRecDepth 100000 in
theorem t_X11_deviation_142 {X : BX} {D : va_G} {cy : Nat → ClassId} {b : Nat} {r : Option Value} {μ' : MS} (hB : BB X D cy b yX11_deviation cX11_deviation 4 (some .int) rmX11_deviation) {l0 : Nat} {l2 : Int32} {μ : MS} {z : (Int32 × MS)} (hf : f_X11_deviation_142 l0 l2 μ = some z) (hk : (fun z : Int32 × MS => r = some (.int z.1) ∧ μ' = z.2) z) : WW X D cy b r μ' 4 0 0 142 [(0, .ref (b + l0)), (2, .int l2)] [] μ := by
  unfold f_X11_deviation_142 at hf
  refine r_aload_n hB 0 rfl (by decide +kernel : decode cX11_deviation 142 = .ok (.aload_n 0, 1)) rfl ?_
  refine r_iload_n hB 1 rfl (by decide +kernel : decode cX11_deviation 143 = .ok (.iload_n 2, 1)) rfl ?_
  refine r_aload_n hB 0 rfl (by decide +kernel : decode cX11_deviation 144 = .ok (.aload_n 0, 1)) rfl ?_
  refine r_gR hB cf11 5 (by decide) (own := "PulseRemote") rfl (Or.inl k_400) (by decide +kernel) (by decide +kernel : decode cX11_deviation 145 = .ok (.getfield 37, 3)) hf (fun x145 hf => ?_)
  refine r_cVi hB [.int l2, .ref (b + x145)] [] cf11 (own := "PulseRemote") rfl cmX11_worstDeviation imX11_worstDeviation (Or.inl k_613) (by decide) rfl rfl rfl (Nat.le_of_ble_eq_true rfl) (by decide +kernel : decode cX11_deviation 148 = .ok (.invokevirtual 311, 3)) (fun z hz => m_X11_worstDeviation _ _ _ _ hz) rfl hf (fun z148 hf => ?_)
  obtain rfl := Option.some.inj hf
  obtain ⟨rfl, rfl⟩ := hk
  exact r_iret hB (by decide +kernel : decode cX11_deviation 151 = .ok (.ireturn, 1))
set_option maxHeartbeats 4000000 in
set_option maxRecDepth 100000 in
theorem t_X11_deviation_0 {X : BX} {D : va_G} {cy : Nat → ClassId} {b : Nat} {r : Option Value} {μ' : MS} (hB : BB X D cy b yX11_deviation cX11_deviation 4 (some .int) rmX11_deviation) {l0 : Nat} {l1 : Int32} {l2 : Int32} {μ : MS} {z : (Int32 × MS)} (hf : f_X11_deviation l0 l1 l2 μ = some z) (hk : (fun z : Int32 × MS => r = some (.int z.1) ∧ μ' = z.2) z) : WW X D cy b r μ' 4 0 0 0 [(0, .ref (b + l0)), (1, .int l1), (2, .int l2)] [] μ := by
  unfold f_X11_deviation at hf
  refine r_iload_n hB 1 rfl (by decide +kernel : decode cX11_deviation 0 = .ok (.iload_n 1, 1)) rfl ?_
  refine r_cSi hB [.int l1] [] (own := "PulseRemote") rfl cmX11_isSlot smX11_isSlot (Or.inl ⟨rfl, k_485⟩) (by decide) rfl rfl rfl (Nat.le_of_ble_eq_true rfl) (by decide +kernel : decode cX11_deviation 1 = .ok (.invokestatic 156, 3)) (fun z hz => m_X11_isSlot _ _ _ _ hz) rfl hf (fun z1 hf => ?_)
  refine r_if_eq hB (tgt := 11) (by decide +kernel : decode cX11_deviation 4 = .ok (.ifCond .eq 7, 3)) (by decide) hf (fun _ hf => ?_) (fun _ hf => ?_)
  · refine r_iconst hB (v := (-1)) (by decide +kernel : decode cX11_deviation 11 = .ok (.iconst (-1), 1)) (by decide +kernel) ?_
    obtain rfl := Option.some.inj hf
    obtain ⟨rfl, rfl⟩ := hk
    exact r_iret hB (by decide +kernel : decode cX11_deviation 12 = .ok (.ireturn, 1))
  · refine r_iload_n hB 2 rfl (by decide +kernel : decode cX11_deviation 7 = .ok (.iload_n 2, 1)) rfl ?_
    refine r_if_ge hB (tgt := 13) (by decide +kernel : decode cX11_deviation 8 = .ok (.ifCond .ge 5, 3)) (by decide) hf (fun _ hf => ?_) (fun _ hf => ?_)
    · refine r_aload_n hB 0 rfl (by decide +kernel : decode cX11_deviation 13 = .ok (.aload_n 0, 1)) rfl ?_
      refine r_gR hB cf11 7 (by decide) (own := "PulseRemote") rfl (Or.inl k_402) (by decide +kernel) (by decide +kernel : decode cX11_deviation 14 = .ok (.getfield 48, 3)) hf (fun x14 hf => ?_)
      refine r_aload_n hB 0 rfl (by decide +kernel : decode cX11_deviation 17 = .ok (.aload_n 0, 1)) rfl ?_
      refine r_gR hB cf11 0 (by decide) (own := "PulseRemote") rfl (Or.inl k_395) (by decide +kernel) (by decide +kernel : decode cX11_deviation 18 = .ok (.getfield 12, 3)) hf (fun x18 hf => ?_)
      refine r_iload_n hB 1 rfl (by decide +kernel : decode cX11_deviation 21 = .ok (.iload_n 1, 1)) rfl ?_
      refine r_cVr hB [.int l1] [.ref (b + x14)] cf7 (own := "PulseRemote") rfl cmX7_trainAt imX7_trainAt (Or.inl k_488) (by decide) rfl rfl rfl (Nat.le_of_ble_eq_true rfl) (by decide +kernel : decode cX11_deviation 22 = .ok (.invokevirtual 159, 3)) (fun z hz => m_X7_trainAt _ _ _ _ hz) rfl hf (fun z22 hf => ?_)
      refine r_aload_n hB 0 rfl (by decide +kernel : decode cX11_deviation 25 = .ok (.aload_n 0, 1)) rfl ?_
      refine r_gR hB cf11 0 (by decide) (own := "PulseRemote") rfl (Or.inl k_395) (by decide +kernel) (by decide +kernel : decode cX11_deviation 26 = .ok (.getfield 12, 3)) hf (fun x26 hf => ?_)
      refine r_gI hB cf7 2 (by decide) (own := "PulseRemote") rfl (Or.inr ⟨_, k_154⟩) (by decide +kernel) (by decide +kernel : decode cX11_deviation 29 = .ok (.getfield 163, 3)) hf (fun x29 hf => ?_)
      refine r_cVv hB [.ref (b + z22.1), .int x29] [] cf3 (own := "PulseRemote") rfl cmX3_split imX3_split (Or.inl k_493) (by decide) rfl rfl rfl (Nat.le_of_ble_eq_true rfl) (by decide +kernel : decode cX11_deviation 32 = .ok (.invokevirtual 166, 3)) (fun z hz => m_X3_split _ _ _ _ hz) rfl hf (fun z32 hf => ?_)
      refine r_iload_n hB 2 rfl (by decide +kernel : decode cX11_deviation 35 = .ok (.iload_n 2, 1)) rfl ?_
      refine r_aload_n hB 0 rfl (by decide +kernel : decode cX11_deviation 36 = .ok (.aload_n 0, 1)) rfl ?_
      refine r_gR hB cf11 7 (by decide) (own := "PulseRemote") rfl (Or.inl k_402) (by decide +kernel) (by decide +kernel : decode cX11_deviation 37 = .ok (.getfield 48, 3)) hf (fun x37 hf => ?_)
      refine r_gI hB cf3 2 (by decide) (own := "PulseRemote") rfl (Or.inr ⟨_, k_210⟩) (by decide +kernel) (by decide +kernel : decode cX11_deviation 40 = .ok (.getfield 286, 3)) hf (fun x40 hf => ?_)
      refine r_icmp_lt hB (tgt := 49) (by decide +kernel : decode cX11_deviation 43 = .ok (.if_icmp .lt 6, 3)) (by decide) hf (fun _ hf => ?_) (fun _ hf => ?_)
      · refine r_aload_n hB 0 rfl (by decide +kernel : decode cX11_deviation 49 = .ok (.aload_n 0, 1)) rfl ?_
        refine r_gR hB cf11 8 (by decide) (own := "PulseRemote") rfl (Or.inl k_403) (by decide +kernel) (by decide +kernel : decode cX11_deviation 50 = .ok (.getfield 55, 3)) hf (fun x50 hf => ?_)
        refine r_aload_n hB 0 rfl (by decide +kernel : decode cX11_deviation 53 = .ok (.aload_n 0, 1)) rfl ?_
        refine r_gR hB cf11 0 (by decide) (own := "PulseRemote") rfl (Or.inl k_395) (by decide +kernel) (by decide +kernel : decode cX11_deviation 54 = .ok (.getfield 12, 3)) hf (fun x54 hf => ?_)
        refine r_gR hB cf7 0 (by decide) (own := "PulseRemote") rfl (Or.inr ⟨_, k_150⟩) (by decide +kernel) (by decide +kernel : decode cX11_deviation 57 = .ok (.getfield 84, 3)) hf (fun x57 hf => ?_)
        refine r_aload_n hB 0 rfl (by decide +kernel : decode cX11_deviation 60 = .ok (.aload_n 0, 1)) rfl ?_
        refine r_gR hB cf11 7 (by decide) (own := "PulseRemote") rfl (Or.inl k_402) (by decide +kernel) (by decide +kernel : decode cX11_deviation 61 = .ok (.getfield 48, 3)) hf (fun x61 hf => ?_)
        refine r_iload_n hB 2 rfl (by decide +kernel : decode cX11_deviation 64 = .ok (.iload_n 2, 1)) rfl ?_
        refine r_aload_n hB 0 rfl (by decide +kernel : decode cX11_deviation 65 = .ok (.aload_n 0, 1)) rfl ?_
        refine r_gR hB cf11 0 (by decide) (own := "PulseRemote") rfl (Or.inl k_395) (by decide +kernel) (by decide +kernel : decode cX11_deviation 66 = .ok (.getfield 12, 3)) hf (fun x66 hf => ?_)
        refine r_gI hB cf7 4 (by decide) (own := "PulseRemote") rfl (Or.inr ⟨_, k_160⟩) (by decide +kernel) (by decide +kernel : decode cX11_deviation 69 = .ok (.getfield 226, 3)) hf (fun x69 hf => ?_)
        refine r_cVv hB [.ref (b + x57), .ref (b + x61), .int l2, .int x69] [] cf2 (own := "PulseRemote") rfl cmX2_decode imX2_decode (Or.inl k_522) (by decide) rfl rfl rfl (Nat.le_of_ble_eq_true rfl) (by decide +kernel : decode cX11_deviation 72 = .ok (.invokevirtual 295, 3)) (fun z hz => m_X2_decode _ _ _ _ hz) rfl hf (fun z72 hf => ?_)
        refine r_aload_n hB 0 rfl (by decide +kernel : decode cX11_deviation 75 = .ok (.aload_n 0, 1)) rfl ?_
        refine r_gR hB cf11 8 (by decide) (own := "PulseRemote") rfl (Or.inl k_403) (by decide +kernel) (by decide +kernel : decode cX11_deviation 76 = .ok (.getfield 55, 3)) hf (fun x76 hf => ?_)
        refine r_cVi hB [] [] cf2 (own := "PulseRemote") rfl cmX2_isDecoded imX2_isDecoded (Or.inl k_576) (by decide) rfl rfl rfl (Nat.le_of_ble_eq_true rfl) (by decide +kernel : decode cX11_deviation 79 = .ok (.invokevirtual 299, 3)) (fun z hz => m_X2_isDecoded _ _ _ _ hz) rfl hf (fun z79 hf => ?_)
        refine r_if_ne hB (tgt := 88) (by decide +kernel : decode cX11_deviation 82 = .ok (.ifCond .ne 6, 3)) (by decide) hf (fun _ hf => ?_) (fun _ hf => ?_)
        · refine r_bipush hB (v := (-9)) (by decide +kernel : decode cX11_deviation 85 = .ok (.bipush (-9), 2)) (by decide +kernel) ?_
          obtain rfl := Option.some.inj hf
          obtain ⟨rfl, rfl⟩ := hk
          exact r_iret hB (by decide +kernel : decode cX11_deviation 87 = .ok (.ireturn, 1))
        · refine r_aload_n hB 0 rfl (by decide +kernel : decode cX11_deviation 88 = .ok (.aload_n 0, 1)) rfl ?_
          refine r_gR hB cf11 0 (by decide) (own := "PulseRemote") rfl (Or.inl k_395) (by decide +kernel) (by decide +kernel : decode cX11_deviation 89 = .ok (.getfield 12, 3)) hf (fun x89 hf => ?_)
          refine r_gR hB cf7 0 (by decide) (own := "PulseRemote") rfl (Or.inr ⟨_, k_150⟩) (by decide +kernel) (by decide +kernel : decode cX11_deviation 92 = .ok (.getfield 84, 3)) hf (fun x92 hf => ?_)
          refine r_aload_n hB 0 rfl (by decide +kernel : decode cX11_deviation 95 = .ok (.aload_n 0, 1)) rfl ?_
          refine r_gR hB cf11 8 (by decide) (own := "PulseRemote") rfl (Or.inl k_403) (by decide +kernel) (by decide +kernel : decode cX11_deviation 96 = .ok (.getfield 55, 3)) hf (fun x96 hf => ?_)
          refine r_gI hB cf2 0 (by decide) (own := "PulseRemote") rfl (Or.inr ⟨_, k_229⟩) (by decide +kernel) (by decide +kernel : decode cX11_deviation 99 = .ok (.getfield 302, 3)) hf (fun x99 hf => ?_)
          refine r_cVr hB [.int x99] [] cf8 (own := "PulseRemote") rfl cmX8_protocolAt imX8_protocolAt (Or.inl k_588) (by decide) rfl rfl rfl (Nat.le_of_ble_eq_true rfl) (by decide +kernel : decode cX11_deviation 102 = .ok (.invokevirtual 102, 3)) (fun z hz => m_X8_protocolAt _ _ _ _ hz) rfl hf (fun z102 hf => ?_)
          refine r_astore_n hB (by decide +kernel : decode cX11_deviation 105 = .ok (.astore_n 3, 1)) rfl (by decide) rfl ?_
          refine ww_lv (lv' := [(3, .ref (b + z102.1)), (0, .ref (b + l0)), (1, .int l1), (2, .int l2)]) rfl ?_
          refine r_aload_n hB 1 rfl (by decide +kernel : decode cX11_deviation 106 = .ok (.aload_n 0, 1)) rfl ?_
          refine r_gR hB cf11 8 (by decide) (own := "PulseRemote") rfl (Or.inl k_403) (by decide +kernel) (by decide +kernel : decode cX11_deviation 107 = .ok (.getfield 55, 3)) hf (fun x107 hf => ?_)
          refine r_cVi hB [] [] cf2 (own := "PulseRemote") rfl cmX2_isCode imX2_isCode (Or.inl k_580) (by decide) rfl rfl rfl (Nat.le_of_ble_eq_true rfl) (by decide +kernel : decode cX11_deviation 110 = .ok (.invokevirtual 308, 3)) (fun z hz => m_X2_isCode _ _ _ _ hz) rfl hf (fun z110 hf => ?_)
          refine r_if_eq hB (tgt := 134) (by decide +kernel : decode cX11_deviation 113 = .ok (.ifCond .eq 21, 3)) (by decide) hf (fun _ hf => ?_) (fun _ hf => ?_)
          · refine r_aload_n hB 0 rfl (by decide +kernel : decode cX11_deviation 134 = .ok (.aload_n 3, 1)) rfl ?_
            refine r_aload_n hB 1 rfl (by decide +kernel : decode cX11_deviation 135 = .ok (.aload_n 0, 1)) rfl ?_
            refine r_gR hB cf11 5 (by decide) (own := "PulseRemote") rfl (Or.inl k_400) (by decide +kernel) (by decide +kernel : decode cX11_deviation 136 = .ok (.getfield 37, 3)) hf (fun x136 hf => ?_)
            refine r_cVv hB [.ref (b + x136)] [] cf6 (own := "PulseRemote") rfl cmX6_writeShortFrame imX6_writeShortFrame (Or.inl k_609) (by decide) rfl rfl rfl (Nat.le_of_ble_eq_true rfl) (by decide +kernel : decode cX11_deviation 139 = .ok (.invokevirtual 256, 3)) (fun z hz => m_X6_writeShortFrame _ _ _ _ hz) rfl hf (fun z139 hf => ?_)
            exact WW.sub [1, 3] rfl (t_X11_deviation_142 hB hf hk)
          · refine r_aload_n hB 0 rfl (by decide +kernel : decode cX11_deviation 116 = .ok (.aload_n 3, 1)) rfl ?_
            refine r_aload_n hB 1 rfl (by decide +kernel : decode cX11_deviation 117 = .ok (.aload_n 0, 1)) rfl ?_
            refine r_gR hB cf11 8 (by decide) (own := "PulseRemote") rfl (Or.inl k_403) (by decide +kernel) (by decide +kernel : decode cX11_deviation 118 = .ok (.getfield 55, 3)) hf (fun x118 hf => ?_)
            refine r_gI hB cf2 1 (by decide) (own := "PulseRemote") rfl (Or.inr ⟨_, k_232⟩) (by decide +kernel) (by decide +kernel : decode cX11_deviation 121 = .ok (.getfield 305, 3)) hf (fun x121 hf => ?_)
            refine r_aload_n hB 1 rfl (by decide +kernel : decode cX11_deviation 124 = .ok (.aload_n 0, 1)) rfl ?_
            refine r_gR hB cf11 5 (by decide) (own := "PulseRemote") rfl (Or.inl k_400) (by decide +kernel) (by decide +kernel : decode cX11_deviation 125 = .ok (.getfield 37, 3)) hf (fun x125 hf => ?_)
            refine r_cVv hB [.int x121, .ref (b + x125)] [] cf6 (own := "PulseRemote") rfl cmX6_writeFrame imX6_writeFrame (Or.inl k_589) (by decide) rfl rfl rfl (Nat.le_of_ble_eq_true rfl) (by decide +kernel : decode cX11_deviation 128 = .ok (.invokevirtual 248, 3)) (fun z hz => m_X6_writeFrame _ _ _ _ hz) rfl hf (fun z128 hf => ?_)
            refine r_goto hB (tgt := 142) (by decide +kernel : decode cX11_deviation 131 = .ok (.goto 11, 3)) (by decide) ?_
            exact WW.sub [1, 3] rfl (t_X11_deviation_142 hB hf hk)
      · refine r_bipush hB (v := (-9)) (by decide +kernel : decode cX11_deviation 46 = .ok (.bipush (-9), 2)) (by decide +kernel) ?_
        obtain rfl := Option.some.inj hf
        obtain ⟨rfl, rfl⟩ := hk
        exact r_iret hB (by decide +kernel : decode cX11_deviation 48 = .ok (.ireturn, 1))
    · refine r_iconst hB (v := (-1)) (by decide +kernel : decode cX11_deviation 11 = .ok (.iconst (-1), 1)) (by decide +kernel) ?_
      obtain rfl := Option.some.inj hf
      obtain ⟨rfl, rfl⟩ := hk
      exact r_iret hB (by decide +kernel : decode cX11_deviation 12 = .ok (.ireturn, 1))
theorem m_X11_deviation (l : Launch) (D : va_G) (cy : Nat → ClassId) (b : Nat) {l0 : Nat} {l1 : Int32} {l2 : Int32} {μ : MS} {z : Int32 × MS} (hf : f_X11_deviation l0 l1 l2 μ = some z) : Met l yX11_deviation (.code yX11_deviation cX11_deviation 4 (some .int) :: GW) rmX11_deviation (Pw D cy b [.ref (b + l0), .int l1, .int l2] μ) (Qw D cy b (some (.int z.1)) (z.2)) rmX11_deviation.cells rmX11_deviation.slots (fun q => b ≤ q) :=
  met_of (by decide) (Nat.le_of_ble_eq_true rfl) (fun X hB _ => (t_X11_deviation_0 hB hf ⟨rfl, rfl⟩))
-- PulseRemote$FrameList.spaceBefore(I)I
set_option maxHeartbeats 4000000 in
set_option maxRecDepth 100000 in
theorem t_X3_spaceBefore_0 {X : BX} {D : va_G} {cy : Nat → ClassId} {b : Nat} {r : Option Value} {μ' : MS} (hB : BB X D cy b yX3_spaceBefore cX3_spaceBefore 2 (some .int) rmX3_spaceBefore) {l0 : Nat} {l1 : Int32} {μ : MS} {z : (Int32 × MS)} (hf : f_X3_spaceBefore l0 l1 μ = some z) (hk : (fun z : Int32 × MS => r = some (.int z.1) ∧ μ' = z.2) z) : WW X D cy b r μ' 2 0 0 0 [(0, .ref (b + l0)), (1, .int l1)] [] μ := by
  unfold f_X3_spaceBefore at hf
  refine r_aload_n hB 0 rfl (by decide +kernel : decode cX3_spaceBefore 0 = .ok (.aload_n 0, 1)) rfl ?_
  refine r_gR hB cf3 3 (by decide) (own := "PulseRemote$FrameList") rfl (Or.inl k_211) (by decide +kernel) (by decide +kernel : decode cX3_spaceBefore 1 = .ok (.getfield 21, 3)) hf (fun x1 hf => ?_)
  refine r_aload_n hB 0 rfl (by decide +kernel : decode cX3_spaceBefore 4 = .ok (.aload_n 0, 1)) rfl ?_
  refine r_iload_n hB 1 rfl (by decide +kernel : decode cX3_spaceBefore 5 = .ok (.iload_n 1, 1)) rfl ?_
  refine r_cVi hB [.int l1] [.ref (b + x1)] cf3 (own := "PulseRemote$FrameList") rfl cmX3_startOf imX3_startOf (Or.inl k_536) (by decide) rfl rfl rfl (Nat.le_of_ble_eq_true rfl) (by decide +kernel : decode cX3_spaceBefore 6 = .ok (.invokevirtual 51, 3)) (fun z hz => m_X3_startOf _ _ _ _ hz) rfl hf (fun z6 hf => ?_)
  refine r_iconst hB (v := 1) (by decide +kernel : decode cX3_spaceBefore 9 = .ok (.iconst 1, 1)) (by decide +kernel) ?_
  refine r_isub hB (by decide +kernel : decode cX3_spaceBefore 10 = .ok (.isub, 1)) ?_
  refine r_cVi hB [.int (z6.1 - 1)] [] cf10 (own := "PulseRemote$FrameList") rfl cmX10_at imX10_at (Or.inl k_502) (by decide) rfl rfl rfl (Nat.le_of_ble_eq_true rfl) (by decide +kernel : decode cX3_spaceBefore 11 = .ok (.invokevirtual 40, 3)) (fun z hz => m_X10_at _ _ _ _ hz) rfl hf (fun z11 hf => ?_)
  obtain rfl := Option.some.inj hf
  obtain ⟨rfl, rfl⟩ := hk
  exact r_iret hB (by decide +kernel : decode cX3_spaceBefore 14 = .ok (.ireturn, 1))
theorem m_X3_spaceBefore (l : Launch) (D : va_G) (cy : Nat → ClassId) (b : Nat) {l0 : Nat} {l1 : Int32} {μ : MS} {z : Int32 × MS} (hf : f_X3_spaceBefore l0 l1 μ = some z) : Met l yX3_spaceBefore (.code yX3_spaceBefore cX3_spaceBefore 2 (some .int) :: GW) rmX3_spaceBefore (Pw D cy b [.ref (b + l0), .int l1] μ) (Qw D cy b (some (.int z.1)) (z.2)) rmX3_spaceBefore.cells rmX3_spaceBefore.slots (fun q => b ≤ q) :=
  met_of (by decide) (Nat.le_of_ble_eq_true rfl) (fun X hB _ => (t_X3_spaceBefore_0 hB hf ⟨rfl, rfl⟩))
-- PulseRemote$PressList.continuesLatest(LPulseRemote$Decoder;LPulseRemote$Table;)Z
set_option maxHeartbeats 4000000 in
set_option maxRecDepth 100000 in
theorem t_X5_continuesLatest_0 {X : BX} {D : va_G} {cy : Nat → ClassId} {b : Nat} {r : Option Value} {μ' : MS} (hB : BB X D cy b yX5_continuesLatest cX5_continuesLatest 3 (some .boolean) rmX5_continuesLatest) {l0 : Nat} {l1 : Nat} {l2 : Nat} {μ : MS} {z : (Int32 × MS)} (hf : f_X5_continuesLatest l0 l1 l2 μ = some z) (hk : (fun z : Int32 × MS => r = some (.int z.1) ∧ μ' = z.2) z) : WW X D cy b r μ' 3 0 0 0 [(0, .ref (b + l0)), (1, .ref (b + l1)), (2, .ref (b + l2))] [] μ := by
  unfold f_X5_continuesLatest at hf
  refine r_aload_n hB 1 rfl (by decide +kernel : decode cX5_continuesLatest 0 = .ok (.aload_n 1, 1)) rfl ?_
  refine r_cVi hB [] [] cf2 (own := "PulseRemote$PressList") rfl cmX2_isDecoded imX2_isDecoded (Or.inl k_642) (by decide) rfl rfl rfl (Nat.le_of_ble_eq_true rfl) (by decide +kernel : decode cX5_continuesLatest 1 = .ok (.invokevirtual 81, 3)) (fun z hz => m_X2_isDecoded _ _ _ _ hz) rfl hf (fun z1 hf => ?_)
  refine r_if_eq hB (tgt := 18) (by decide +kernel : decode cX5_continuesLatest 4 = .ok (.ifCond .eq 14, 3)) (by decide) hf (fun _ hf => ?_) (fun _ hf => ?_)
  · refine r_iconst hB (v := 0) (by decide +kernel : decode cX5_continuesLatest 18 = .ok (.iconst 0, 1)) (by decide +kernel) ?_
    obtain rfl := Option.some.inj hf
    obtain ⟨rfl, rfl⟩ := hk
    exact r_zret hB (Or.inl rfl) (by decide +kernel : decode cX5_continuesLatest 19 = .ok (.ireturn, 1))
  · refine r_aload_n hB 1 rfl (by decide +kernel : decode cX5_continuesLatest 7 = .ok (.aload_n 1, 1)) rfl ?_
    refine r_gI hB cf2 0 (by decide) (own := "PulseRemote$PressList") rfl (Or.inr ⟨_, k_228⟩) (by decide +kernel) (by decide +kernel : decode cX5_continuesLatest 8 = .ok (.getfield 84, 3)) hf (fun x8 hf => ?_)
    refine r_aload_n hB 0 rfl (by decide +kernel : decode cX5_continuesLatest 11 = .ok (.aload_n 0, 1)) rfl ?_
    refine r_gI hB cf5 6 (by decide) (own := "PulseRemote$PressList") rfl (Or.inl k_268) (by decide +kernel) (by decide +kernel : decode cX5_continuesLatest 12 = .ok (.getfield 87, 3)) hf (fun x12 hf => ?_)
    refine r_icmp_eq hB (tgt := 20) (by decide +kernel : decode cX5_continuesLatest 15 = .ok (.if_icmp .eq 5, 3)) (by decide) hf (fun _ hf => ?_) (fun _ hf => ?_)
    · refine r_aload_n hB 1 rfl (by decide +kernel : decode cX5_continuesLatest 20 = .ok (.aload_n 1, 1)) rfl ?_
      refine r_cVi hB [] [] cf2 (own := "PulseRemote$PressList") rfl cmX2_isCode imX2_isCode (Or.inl k_643) (by decide) rfl rfl rfl (Nat.le_of_ble_eq_true rfl) (by decide +kernel : decode cX5_continuesLatest 21 = .ok (.invokevirtual 73, 3)) (fun z hz => m_X2_isCode _ _ _ _ hz) rfl hf (fun z21 hf => ?_)
      refine r_if_ne hB (tgt := 29) (by decide +kernel : decode cX5_continuesLatest 24 = .ok (.ifCond .ne 5, 3)) (by decide) hf (fun _ hf => ?_) (fun _ hf => ?_)
      · refine r_iconst hB (v := 1) (by decide +kernel : decode cX5_continuesLatest 27 = .ok (.iconst 1, 1)) (by decide +kernel) ?_
        obtain rfl := Option.some.inj hf
        obtain ⟨rfl, rfl⟩ := hk
        exact r_zret hB (Or.inr rfl) (by decide +kernel : decode cX5_continuesLatest 28 = .ok (.ireturn, 1))
      · refine r_aload_n hB 1 rfl (by decide +kernel : decode cX5_continuesLatest 29 = .ok (.aload_n 1, 1)) rfl ?_
        refine r_gI hB cf2 1 (by decide) (own := "PulseRemote$PressList") rfl (Or.inr ⟨_, k_231⟩) (by decide +kernel) (by decide +kernel : decode cX5_continuesLatest 30 = .ok (.getfield 90, 3)) hf (fun x30 hf => ?_)
        refine r_aload_n hB 0 rfl (by decide +kernel : decode cX5_continuesLatest 33 = .ok (.aload_n 0, 1)) rfl ?_
        refine r_gI hB cf5 7 (by decide) (own := "PulseRemote$PressList") rfl (Or.inl k_269) (by decide +kernel) (by decide +kernel : decode cX5_continuesLatest 34 = .ok (.getfield 93, 3)) hf (fun x34 hf => ?_)
        refine r_icmp_ne hB (tgt := 59) (by decide +kernel : decode cX5_continuesLatest 37 = .ok (.if_icmp .ne 22, 3)) (by decide) hf (fun _ hf => ?_) (fun _ hf => ?_)
        · refine r_aload_n hB 2 rfl (by decide +kernel : decode cX5_continuesLatest 40 = .ok (.aload_n 2, 1)) rfl ?_
          refine r_aload_n hB 0 rfl (by decide +kernel : decode cX5_continuesLatest 41 = .ok (.aload_n 0, 1)) rfl ?_
          refine r_gI hB cf5 6 (by decide) (own := "PulseRemote$PressList") rfl (Or.inl k_268) (by decide +kernel) (by decide +kernel : decode cX5_continuesLatest 42 = .ok (.getfield 87, 3)) hf (fun x42 hf => ?_)
          refine r_cVr hB [.int x42] [] cf8 (own := "PulseRemote$PressList") rfl cmX8_protocolAt imX8_protocolAt (Or.inl k_644) (by decide) rfl rfl rfl (Nat.le_of_ble_eq_true rfl) (by decide +kernel : decode cX5_continuesLatest 45 = .ok (.invokevirtual 96, 3)) (fun z hz => m_X8_protocolAt _ _ _ _ hz) rfl hf (fun z45 hf => ?_)
          refine r_gI hB cf6 8 (by decide) (own := "PulseRemote$PressList") rfl (Or.inr ⟨_, k_87⟩) (by decide +kernel) (by decide +kernel : decode cX5_continuesLatest 48 = .ok (.getfield 102, 3)) hf (fun x48 hf => ?_)
          refine r_iconst hB (v := 1) (by decide +kernel : decode cX5_continuesLatest 51 = .ok (.iconst 1, 1)) (by decide +kernel) ?_
          refine r_icmp_eq hB (tgt := 59) (by decide +kernel : decode cX5_continuesLatest 52 = .ok (.if_icmp .eq 7, 3)) (by decide) hf (fun _ hf => ?_) (fun _ hf => ?_)
          · refine r_iconst hB (v := 0) (by decide +kernel : decode cX5_continuesLatest 59 = .ok (.iconst 0, 1)) (by decide +kernel) ?_
            obtain rfl := Option.some.inj hf
            obtain ⟨rfl, rfl⟩ := hk
            exact r_zret hB (Or.inl rfl) (by decide +kernel : decode cX5_continuesLatest 60 = .ok (.ireturn, 1))
          · refine r_iconst hB (v := 1) (by decide +kernel : decode cX5_continuesLatest 55 = .ok (.iconst 1, 1)) (by decide +kernel) ?_
            refine r_goto hB (tgt := 60) (by decide +kernel : decode cX5_continuesLatest 56 = .ok (.goto 4, 3)) (by decide) ?_
            obtain rfl := Option.some.inj hf
            obtain ⟨rfl, rfl⟩ := hk
            exact r_zret hB (Or.inr rfl) (by decide +kernel : decode cX5_continuesLatest 60 = .ok (.ireturn, 1))
        · refine r_iconst hB (v := 0) (by decide +kernel : decode cX5_continuesLatest 59 = .ok (.iconst 0, 1)) (by decide +kernel) ?_
          obtain rfl := Option.some.inj hf
          obtain ⟨rfl, rfl⟩ := hk
          exact r_zret hB (Or.inl rfl) (by decide +kernel : decode cX5_continuesLatest 60 = .ok (.ireturn, 1))
    · refine r_iconst hB (v := 0) (by decide +kernel : decode cX5_continuesLatest 18 = .ok (.iconst 0, 1)) (by decide +kernel) ?_
      obtain rfl := Option.some.inj hf
      obtain ⟨rfl, rfl⟩ := hk
      exact r_zret hB (Or.inl rfl) (by decide +kernel : decode cX5_continuesLatest 19 = .ok (.ireturn, 1))
theorem m_X5_continuesLatest (l : Launch) (D : va_G) (cy : Nat → ClassId) (b : Nat) {l0 : Nat} {l1 : Nat} {l2 : Nat} {μ : MS} {z : Int32 × MS} (hf : f_X5_continuesLatest l0 l1 l2 μ = some z) : Met l yX5_continuesLatest (.code yX5_continuesLatest cX5_continuesLatest 3 (some .boolean) :: GW) rmX5_continuesLatest (Pw D cy b [.ref (b + l0), .ref (b + l1), .ref (b + l2)] μ) (Qw D cy b (some (.int z.1)) (z.2)) rmX5_continuesLatest.cells rmX5_continuesLatest.slots (fun q => b ≤ q) :=
  met_of (by decide) (Nat.le_of_ble_eq_true rfl) (fun X hB _ => (t_X5_continuesLatest_0 hB hf ⟨rfl, rfl⟩))
-- PulseRemote$PressList.countLatest()V
set_option maxHeartbeats 4000000 in
set_option maxRecDepth 100000 in
theorem t_X5_countLatest_0 {X : BX} {D : va_G} {cy : Nat → ClassId} {b : Nat} {r : Option Value} {μ' : MS} (hB : BB X D cy b yX5_countLatest cX5_countLatest 1 none rmX5_countLatest) {l0 : Nat} {μ : MS} {z : MS} (hf : f_X5_countLatest l0 μ = some z) (hk : (fun z : MS => r = none ∧ μ' = z) z) : WW X D cy b r μ' 1 0 0 0 [(0, .ref (b + l0))] [] μ := by
  unfold f_X5_countLatest at hf
  refine r_aload_n hB 0 rfl (by decide +kernel : decode cX5_countLatest 0 = .ok (.aload_n 0, 1)) rfl ?_
  refine r_gI hB cf5 5 (by decide) (own := "PulseRemote$PressList") rfl (Or.inl k_267) (by decide +kernel) (by decide +kernel : decode cX5_countLatest 1 = .ok (.getfield 107, 3)) hf (fun x1 hf => ?_)
  refine r_if_eq hB (tgt := 38) (by decide +kernel : decode cX5_countLatest 4 = .ok (.ifCond .eq 34, 3)) (by decide) hf (fun _ hf => ?_) (fun _ hf => ?_)
  · obtain rfl := Option.some.inj hf
    obtain ⟨rfl, rfl⟩ := hk
    exact r_vret hB (by decide +kernel : decode cX5_countLatest 38 = .ok (.return_, 1))
  · refine r_aload_n hB 0 rfl (by decide +kernel : decode cX5_countLatest 7 = .ok (.aload_n 0, 1)) rfl ?_
    refine r_gI hB cf5 3 (by decide) (own := "PulseRemote$PressList") rfl (Or.inl k_263) (by decide +kernel) (by decide +kernel : decode cX5_countLatest 8 = .ok (.getfield 37, 3)) hf (fun x8 hf => ?_)
    refine r_if_le hB (tgt := 38) (by decide +kernel : decode cX5_countLatest 11 = .ok (.ifCond .le 27, 3)) (by decide) hf (fun _ hf => ?_) (fun _ hf => ?_)
    · obtain rfl := Option.some.inj hf
      obtain ⟨rfl, rfl⟩ := hk
      exact r_vret hB (by decide +kernel : decode cX5_countLatest 38 = .ok (.return_, 1))
    · refine r_aload_n hB 0 rfl (by decide +kernel : decode cX5_countLatest 14 = .ok (.aload_n 0, 1)) rfl ?_
      refine r_gI hB cf5 3 (by decide) (own := "PulseRemote$PressList") rfl (Or.inl k_263) (by decide +kernel) (by decide +kernel : decode cX5_countLatest 15 = .ok (.getfield 37, 3)) hf (fun x15 hf => ?_)
      refine r_bipush hB (v := 30) (by decide +kernel : decode cX5_countLatest 18 = .ok (.bipush 30, 2)) (by decide +kernel) ?_
      refine r_icmp_gt hB (tgt := 38) (by decide +kernel : decode cX5_countLatest 20 = .ok (.if_icmp .gt 18, 3)) (by decide) hf (fun _ hf => ?_) (fun _ hf => ?_)
      · obtain rfl := Option.some.inj hf
        obtain ⟨rfl, rfl⟩ := hk
        exact r_vret hB (by decide +kernel : decode cX5_countLatest 38 = .ok (.return_, 1))
      · refine r_aload_n hB 0 rfl (by decide +kernel : decode cX5_countLatest 23 = .ok (.aload_n 0, 1)) rfl ?_
        refine r_gR hB cf5 2 (by decide) (own := "PulseRemote$PressList") rfl (Or.inl k_261) (by decide +kernel) (by decide +kernel : decode cX5_countLatest 24 = .ok (.getfield 18, 3)) hf (fun x24 hf => ?_)
        refine r_aload_n hB 0 rfl (by decide +kernel : decode cX5_countLatest 27 = .ok (.aload_n 0, 1)) rfl ?_
        refine r_gI hB cf5 3 (by decide) (own := "PulseRemote$PressList") rfl (Or.inl k_263) (by decide +kernel) (by decide +kernel : decode cX5_countLatest 28 = .ok (.getfield 37, 3)) hf (fun x28 hf => ?_)
        refine r_iconst hB (v := 1) (by decide +kernel : decode cX5_countLatest 31 = .ok (.iconst 1, 1)) (by decide +kernel) ?_
        refine r_isub hB (by decide +kernel : decode cX5_countLatest 32 = .ok (.isub, 1)) ?_
        refine r_dup2 hB (by decide +kernel : decode cX5_countLatest 33 = .ok (.dup2, 1)) rfl rfl ?_
        refine r_iald hB (by decide +kernel : decode cX5_countLatest 34 = .ok (.iaload, 1)) hf (fun x34 hf => ?_)
        refine r_iconst hB (v := 1) (by decide +kernel : decode cX5_countLatest 35 = .ok (.iconst 1, 1)) (by decide +kernel) ?_
        refine r_iadd hB (by decide +kernel : decode cX5_countLatest 36 = .ok (.iadd, 1)) ?_
        refine r_iast hB (by decide +kernel : decode cX5_countLatest 37 = .ok (.iastore, 1)) hf (fun m37 hf => ?_)
        obtain rfl := Option.some.inj hf
        obtain ⟨rfl, rfl⟩ := hk
        exact r_vret hB (by decide +kernel : decode cX5_countLatest 38 = .ok (.return_, 1))
theorem m_X5_countLatest (l : Launch) (D : va_G) (cy : Nat → ClassId) (b : Nat) {l0 : Nat} {μ : MS} {z : MS} (hf : f_X5_countLatest l0 μ = some z) : Met l yX5_countLatest (.code yX5_countLatest cX5_countLatest 1 none :: GW) rmX5_countLatest (Pw D cy b [.ref (b + l0)] μ) (Qw D cy b (none) (z)) rmX5_countLatest.cells rmX5_countLatest.slots (fun q => b ≤ q) :=
  met_of (by decide) (Nat.le_of_ble_eq_true rfl) (fun X hB _ => (t_X5_countLatest_0 hB hf ⟨rfl, rfl⟩))
-- PulseRemote$PressList.begin(LPulseRemote$Decoder;)V
set_option maxHeartbeats 4000000 in
set_option maxRecDepth 100000 in
theorem t_X5_begin_31 {X : BX} {D : va_G} {cy : Nat → ClassId} {b : Nat} {r : Option Value} {μ' : MS} (hB : BB X D cy b yX5_begin cX5_begin 2 none rmX5_begin) {l0 : Nat} {s0 : Int32} {s1 : Nat} {μ : MS} {z : MS} (hf : f_X5_begin_31 l0 s0 s1 μ = some z) (hk : (fun z : MS => r = none ∧ μ' = z) z) : WW X D cy b r μ' 2 0 0 31 [(0, .ref (b + l0))] [.int s0, .ref (b + s1)] μ := by
  unfold f_X5_begin_31 at hf
  refine r_pZ hB cf5 5 (by decide) (own := "PulseRemote$PressList") rfl (Or.inl k_267) (Or.inl rfl) rfl (by decide +kernel : decode cX5_begin 31 = .ok (.putfield 107, 3)) hf (fun m31 hf => ?_)
  refine r_aload_n hB 0 rfl (by decide +kernel : decode cX5_begin 34 = .ok (.aload_n 0, 1)) rfl ?_
  refine r_gI hB cf5 5 (by decide) (own := "PulseRemote$PressList") rfl (Or.inl k_267) (by decide +kernel) (by decide +kernel : decode cX5_begin 35 = .ok (.getfield 107, 3)) hf (fun x35 hf => ?_)
  refine r_if_eq hB (tgt := 87) (by decide +kernel : decode cX5_begin 38 = .ok (.ifCond .eq 49, 3)) (by decide) hf (fun _ hf => ?_) (fun _ hf => ?_)
  · obtain rfl := Option.some.inj hf
    obtain ⟨rfl, rfl⟩ := hk
    exact r_vret hB (by decide +kernel : decode cX5_begin 87 = .ok (.return_, 1))
  · refine r_aload_n hB 0 rfl (by decide +kernel : decode cX5_begin 41 = .ok (.aload_n 0, 1)) rfl ?_
    refine r_gR hB cf5 0 (by decide) (own := "PulseRemote$PressList") rfl (Or.inl k_257) (by decide +kernel) (by decide +kernel : decode cX5_begin 42 = .ok (.getfield 9, 3)) hf (fun x42 hf => ?_)
    refine r_aload_n hB 0 rfl (by decide +kernel : decode cX5_begin 45 = .ok (.aload_n 0, 1)) rfl ?_
    refine r_gI hB cf5 3 (by decide) (own := "PulseRemote$PressList") rfl (Or.inl k_263) (by decide +kernel) (by decide +kernel : decode cX5_begin 46 = .ok (.getfield 37, 3)) hf (fun x46 hf => ?_)
    refine r_aload_n hB 0 rfl (by decide +kernel : decode cX5_begin 49 = .ok (.aload_n 0, 1)) rfl ?_
    refine r_gI hB cf5 6 (by decide) (own := "PulseRemote$PressList") rfl (Or.inl k_268) (by decide +kernel) (by decide +kernel : decode cX5_begin 50 = .ok (.getfield 87, 3)) hf (fun x50 hf => ?_)
    refine r_iast hB (by decide +kernel : decode cX5_begin 53 = .ok (.iastore, 1)) hf (fun m53 hf => ?_)
    refine r_aload_n hB 0 rfl (by decide +kernel : decode cX5_begin 54 = .ok (.aload_n 0, 1)) rfl ?_
    refine r_gR hB cf5 1 (by decide) (own := "PulseRemote$PressList") rfl (Or.inl k_259) (by decide +kernel) (by decide +kernel : decode cX5_begin 55 = .ok (.getfield 15, 3)) hf (fun x55 hf => ?_)
    refine r_aload_n hB 0 rfl (by decide +kernel : decode cX5_begin 58 = .ok (.aload_n 0, 1)) rfl ?_
    refine r_gI hB cf5 3 (by decide) (own := "PulseRemote$PressList") rfl (Or.inl k_263) (by decide +kernel) (by decide +kernel : decode cX5_begin 59 = .ok (.getfield 37, 3)) hf (fun x59 hf => ?_)
    refine r_aload_n hB 0 rfl (by decide +kernel : decode cX5_begin 62 = .ok (.aload_n 0, 1)) rfl ?_
    refine r_gI hB cf5 7 (by decide) (own := "PulseRemote$PressList") rfl (Or.inl k_269) (by decide +kernel) (by decide +kernel : decode cX5_begin 63 = .ok (.getfield 93, 3)) hf (fun x63 hf => ?_)
    refine r_iast hB (by decide +kernel : decode cX5_begin 66 = .ok (.iastore, 1)) hf (fun m66 hf => ?_)
    refine r_aload_n hB 0 rfl (by decide +kernel : decode cX5_begin 67 = .ok (.aload_n 0, 1)) rfl ?_
    refine r_gR hB cf5 2 (by decide) (own := "PulseRemote$PressList") rfl (Or.inl k_261) (by decide +kernel) (by decide +kernel : decode cX5_begin 68 = .ok (.getfield 18, 3)) hf (fun x68 hf => ?_)
    refine r_aload_n hB 0 rfl (by decide +kernel : decode cX5_begin 71 = .ok (.aload_n 0, 1)) rfl ?_
    refine r_gI hB cf5 3 (by decide) (own := "PulseRemote$PressList") rfl (Or.inl k_263) (by decide +kernel) (by decide +kernel : decode cX5_begin 72 = .ok (.getfield 37, 3)) hf (fun x72 hf => ?_)
    refine r_iconst hB (v := 1) (by decide +kernel : decode cX5_begin 75 = .ok (.iconst 1, 1)) (by decide +kernel) ?_
    refine r_iast hB (by decide +kernel : decode cX5_begin 76 = .ok (.iastore, 1)) hf (fun m76 hf => ?_)
    refine r_aload_n hB 0 rfl (by decide +kernel : decode cX5_begin 77 = .ok (.aload_n 0, 1)) rfl ?_
    refine r_dup hB (by decide +kernel : decode cX5_begin 78 = .ok (.dup, 1)) rfl ?_
    refine r_gI hB cf5 3 (by decide) (own := "PulseRemote$PressList") rfl (Or.inl k_263) (by decide +kernel) (by decide +kernel : decode cX5_begin 79 = .ok (.getfield 37, 3)) hf (fun x79 hf => ?_)
    refine r_iconst hB (v := 1) (by decide +kernel : decode cX5_begin 82 = .ok (.iconst 1, 1)) (by decide +kernel) ?_
    refine r_iadd hB (by decide +kernel : decode cX5_begin 83 = .ok (.iadd, 1)) ?_
    refine r_pI hB cf5 3 (by decide) (own := "PulseRemote$PressList") rfl (Or.inl k_263) (Or.inl rfl) rfl (by decide +kernel : decode cX5_begin 84 = .ok (.putfield 37, 3)) hf (fun m84 hf => ?_)
    obtain rfl := Option.some.inj hf
    obtain ⟨rfl, rfl⟩ := hk
    exact r_vret hB (by decide +kernel : decode cX5_begin 87 = .ok (.return_, 1))
set_option maxHeartbeats 4000000 in
set_option maxRecDepth 100000 in
theorem t_X5_begin_0 {X : BX} {D : va_G} {cy : Nat → ClassId} {b : Nat} {r : Option Value} {μ' : MS} (hB : BB X D cy b yX5_begin cX5_begin 2 none rmX5_begin) {l0 : Nat} {l1 : Nat} {μ : MS} {z : MS} (hf : f_X5_begin l0 l1 μ = some z) (hk : (fun z : MS => r = none ∧ μ' = z) z) : WW X D cy b r μ' 2 0 0 0 [(0, .ref (b + l0)), (1, .ref (b + l1))] [] μ := by
  unfold f_X5_begin at hf
  refine r_aload_n hB 0 rfl (by decide +kernel : decode cX5_begin 0 = .ok (.aload_n 0, 1)) rfl ?_
  refine r_aload_n hB 1 rfl (by decide +kernel : decode cX5_begin 1 = .ok (.aload_n 1, 1)) rfl ?_
  refine r_gI hB cf2 0 (by decide) (own := "PulseRemote$PressList") rfl (Or.inr ⟨_, k_228⟩) (by decide +kernel) (by decide +kernel : decode cX5_begin 2 = .ok (.getfield 84, 3)) hf (fun x2 hf => ?_)
  refine r_pI hB cf5 6 (by decide) (own := "PulseRemote$PressList") rfl (Or.inl k_268) (Or.inl rfl) rfl (by decide +kernel : decode cX5_begin 5 = .ok (.putfield 87, 3)) hf (fun m5 hf => ?_)
  refine r_aload_n hB 0 rfl (by decide +kernel : decode cX5_begin 8 = .ok (.aload_n 0, 1)) rfl ?_
  refine r_aload_n hB 1 rfl (by decide +kernel : decode cX5_begin 9 = .ok (.aload_n 1, 1)) rfl ?_
  refine r_gI hB cf2 1 (by decide) (own := "PulseRemote$PressList") rfl (Or.inr ⟨_, k_231⟩) (by decide +kernel) (by decide +kernel : decode cX5_begin 10 = .ok (.getfield 90, 3)) hf (fun x10 hf => ?_)
  refine r_pI hB cf5 7 (by decide) (own := "PulseRemote$PressList") rfl (Or.inl k_269) (Or.inl rfl) rfl (by decide +kernel : decode cX5_begin 13 = .ok (.putfield 93, 3)) hf (fun m13 hf => ?_)
  refine r_aload_n hB 0 rfl (by decide +kernel : decode cX5_begin 16 = .ok (.aload_n 0, 1)) rfl ?_
  refine r_aload_n hB 0 rfl (by decide +kernel : decode cX5_begin 17 = .ok (.aload_n 0, 1)) rfl ?_
  refine r_gI hB cf5 3 (by decide) (own := "PulseRemote$PressList") rfl (Or.inl k_263) (by decide +kernel) (by decide +kernel : decode cX5_begin 18 = .ok (.getfield 37, 3)) hf (fun x18 hf => ?_)
  refine r_bipush hB (v := 30) (by decide +kernel : decode cX5_begin 21 = .ok (.bipush 30, 2)) (by decide +kernel) ?_
  refine r_icmp_ge hB (tgt := 30) (by decide +kernel : decode cX5_begin 23 = .ok (.if_icmp .ge 7, 3)) (by decide) hf (fun _ hf => ?_) (fun _ hf => ?_)
  · refine r_iconst hB (v := 0) (by decide +kernel : decode cX5_begin 30 = .ok (.iconst 0, 1)) (by decide +kernel) ?_
    exact WW.sub [0] rfl (t_X5_begin_31 hB hf hk)
  · refine r_iconst hB (v := 1) (by decide +kernel : decode cX5_begin 26 = .ok (.iconst 1, 1)) (by decide +kernel) ?_
    refine r_goto hB (tgt := 31) (by decide +kernel : decode cX5_begin 27 = .ok (.goto 4, 3)) (by decide) ?_
    exact WW.sub [0] rfl (t_X5_begin_31 hB hf hk)
theorem m_X5_begin (l : Launch) (D : va_G) (cy : Nat → ClassId) (b : Nat) {l0 : Nat} {l1 : Nat} {μ : MS} {z : MS} (hf : f_X5_begin l0 l1 μ = some z) : Met l yX5_begin (.code yX5_begin cX5_begin 2 none :: GW) rmX5_begin (Pw D cy b [.ref (b + l0), .ref (b + l1)] μ) (Qw D cy b (none) (z)) rmX5_begin.cells rmX5_begin.slots (fun q => b ≤ q) :=
  met_of (by decide) (Nat.le_of_ble_eq_true rfl) (fun X hB _ => (t_X5_begin_0 hB hf ⟨rfl, rfl⟩))
-- PulseRemote$PressList.find(LPulseRemote$State;ILPulseRemote$FrameList;LPulseRemote$Decoder;)V
set_option maxHeartbeats 4000000 in
set_option maxRecDepth 100000 in
theorem t_X5_find_143 {X : BX} {D : va_G} {cy : Nat → ClassId} {b : Nat} {r : Option Value} {μ' : MS} (hB : BB X D cy b yX5_find cX5_find 8 none rmX5_find)  {μ : MS} {z : MS} (hf : f_X5_find_143  μ = some z) (hk : (fun z : MS => r = none ∧ μ' = z) z) : WW X D cy b r μ' 8 0 0 143 [] [] μ := by
  unfold f_X5_find_143 at hf
  obtain rfl := Option.some.inj hf
  obtain ⟨rfl, rfl⟩ := hk
  exact r_vret hB (by decide +kernel : decode cX5_find 143 = .ok (.return_, 1))
set_option maxHeartbeats 4000000 in
set_option maxRecDepth 100000 in
theorem t_X5_find_137 {X : BX} {D : va_G} {cy : Nat → ClassId} {b : Nat} {r : Option Value} {μ' : MS} (hB : BB X D cy b yX5_find cX5_find 8 none rmX5_find) {l0 : Nat} {l1 : Nat} {l3 : Nat} {l4 : Nat} {l5 : Int32} {l6 : Int32} {μ : MS} {z : ((Nat × Nat × Nat × Nat × Int32 × Int32 × MS) ⊕ MS)} (hf : f_X5_find_137 l0 l1 l3 l4 l5 l6 μ = some z) (hk : (Sum.elim (fun s : Nat × Nat × Nat × Nat × Int32 × Int32 × MS => WW X D cy b r μ' 8 0 0 29 [(0, .ref (b + s.1)), (1, .ref (b + s.2.1)), (3, .ref (b + s.2.2.1)), (4, .ref (b + s.2.2.2.1)), (5, .int s.2.2.2.2.1), (6, .int s.2.2.2.2.2.1)] [] s.2.2.2.2.2.2) (fun z : MS => r = none ∧ μ' = z)) z) : WW X D cy b r μ' 8 0 0 137 [(0, .ref (b + l0)), (1, .ref (b + l1)), (3, .ref (b + l3)), (4, .ref (b + l4)), (5, .int l5), (6, .int l6)] [] μ := by
  unfold f_X5_find_137 at hf
  refine r_iincB hB 5 rfl (by decide +kernel : decode cX5_find 137 = .ok (.iinc 6 1, 3)) (w := 1) (by decide +kernel) (by decide) hf (fun v137 hf => ?_)
  refine ww_lv (lv' := [(6, .int v137), (0, .ref (b + l0)), (1, .ref (b + l1)), (3, .ref (b + l3)), (4, .ref (b + l4)), (5, .int l5)]) rfl ?_
  refine r_goto hB (tgt := 29) (by decide +kernel : decode cX5_find 140 = .ok (.goto (-111), 3)) (by decide) ?_
  obtain rfl := Option.some.inj hf
  exact WW.sub [1, 2, 3, 4, 5, 0] rfl hk
set_option maxHeartbeats 4000000 in
set_option maxRecDepth 100000 in
theorem t_X5_find_104 {X : BX} {D : va_G} {cy : Nat → ClassId} {b : Nat} {r : Option Value} {μ' : MS} (hB : BB X D cy b yX5_find cX5_find 8 none rmX5_find) {l0 : Nat} {l1 : Nat} {l3 : Nat} {l4 : Nat} {l6 : Int32} {μ : MS} {z : ((Nat × Nat × Nat × Nat × Int32 × Int32 × MS) ⊕ MS)} (hf : f_X5_find_104 l0 l1 l3 l4 l6 μ = some z) (hk : (Sum.elim (fun s : Nat × Nat × Nat × Nat × Int32 × Int32 × MS => WW X D cy b r μ' 8 0 0 29 [(0, .ref (b + s.1)), (1, .ref (b + s.2.1)), (3, .ref (b + s.2.2.1)), (4, .ref (b + s.2.2.2.1)), (5, .int s.2.2.2.2.1), (6, .int s.2.2.2.2.2.1)] [] s.2.2.2.2.2.2) (fun z : MS => r = none ∧ μ' = z)) z) : WW X D cy b r μ' 8 0 0 104 [(0, .ref (b + l0)), (1, .ref (b + l1)), (3, .ref (b + l3)), (4, .ref (b + l4)), (6, .int l6)] [] μ := by
  unfold f_X5_find_104 at hf
  refine r_aload hB 3 rfl (by decide +kernel : decode cX5_find 104 = .ok (.aload 4, 2)) ?_
  refine r_cVi hB [] [] cf2 (own := "PulseRemote$PressList") rfl cmX2_isCode imX2_isCode (Or.inl k_643) (by decide) rfl rfl rfl (Nat.le_of_ble_eq_true rfl) (by decide +kernel : decode cX5_find 106 = .ok (.invokevirtual 73, 3)) (fun z hz => m_X2_isCode _ _ _ _ hz) rfl hf (fun z106 hf => ?_)
  refine r_if_eq hB (tgt := 124) (by decide +kernel : decode cX5_find 109 = .ok (.ifCond .eq 15, 3)) (by decide) hf (fun _ hf => ?_) (fun _ hf => ?_)
  · refine r_aload_n hB 0 rfl (by decide +kernel : decode cX5_find 124 = .ok (.aload_n 0, 1)) rfl ?_
    refine r_dup hB (by decide +kernel : decode cX5_find 125 = .ok (.dup, 1)) rfl ?_
    refine r_gI hB cf5 4 (by decide) (own := "PulseRemote$PressList") rfl (Or.inl k_265) (by decide +kernel) (by decide +kernel : decode cX5_find 126 = .ok (.getfield 40, 3)) hf (fun x126 hf => ?_)
    refine r_iconst hB (v := 1) (by decide +kernel : decode cX5_find 129 = .ok (.iconst 1, 1)) (by decide +kernel) ?_
    refine r_iadd hB (by decide +kernel : decode cX5_find 130 = .ok (.iadd, 1)) ?_
    refine r_pI hB cf5 4 (by decide) (own := "PulseRemote$PressList") rfl (Or.inl k_265) (Or.inl rfl) rfl (by decide +kernel : decode cX5_find 131 = .ok (.putfield 40, 3)) hf (fun m131 hf => ?_)
    refine r_iconst hB (v := 0) (by decide +kernel : decode cX5_find 134 = .ok (.iconst 0, 1)) (by decide +kernel) ?_
    refine r_istore hB (by decide +kernel : decode cX5_find 135 = .ok (.istore 5, 2)) (by decide) rfl ?_
    refine ww_lv (lv' := [(5, .int 0), (0, .ref (b + l0)), (1, .ref (b + l1)), (3, .ref (b + l3)), (4, .ref (b + l4)), (6, .int l6)]) rfl ?_
    exact WW.sub [1, 2, 3, 4, 0, 5] rfl (t_X5_find_137 hB hf hk)
  · refine r_aload_n hB 0 rfl (by decide +kernel : decode cX5_find 112 = .ok (.aload_n 0, 1)) rfl ?_
    refine r_aload hB 3 rfl (by decide +kernel : decode cX5_find 113 = .ok (.aload 4, 2)) ?_
    refine r_cVv hB [.ref (b + l4)] [] cf5 (own := "PulseRemote$PressList") rfl cmX5_begin imX5_begin (Or.inl k_649) (by decide) rfl rfl rfl (Nat.le_of_ble_eq_true rfl) (by decide +kernel : decode cX5_find 115 = .ok (.invokevirtual 77, 3)) (fun z hz => m_X5_begin _ _ _ _ hz) rfl hf (fun z115 hf => ?_)
    refine r_iconst hB (v := 1) (by decide +kernel : decode cX5_find 118 = .ok (.iconst 1, 1)) (by decide +kernel) ?_
    refine r_istore hB (by decide +kernel : decode cX5_find 119 = .ok (.istore 5, 2)) (by decide) rfl ?_
    refine ww_lv (lv' := [(5, .int 1), (0, .ref (b + l0)), (1, .ref (b + l1)), (3, .ref (b + l3)), (4, .ref (b + l4)), (6, .int l6)]) rfl ?_
    refine r_goto hB (tgt := 137) (by decide +kernel : decode cX5_find 121 = .ok (.goto 16, 3)) (by decide) ?_
    exact WW.sub [1, 2, 3, 4, 0, 5] rfl (t_X5_find_137 hB hf hk)
set_option maxHeartbeats 4000000 in
set_option maxRecDepth 100000 in
theorem t_X5_find_72 {X : BX} {D : va_G} {cy : Nat → ClassId} {b : Nat} {r : Option Value} {μ' : MS} (hB : BB X D cy b yX5_find cX5_find 8 none rmX5_find) {l0 : Nat} {l1 : Nat} {l3 : Nat} {l4 : Nat} {l5 : Int32} {l6 : Int32} {s0 : Int32} {μ : MS} {z : ((Nat × Nat × Nat × Nat × Int32 × Int32 × MS) ⊕ MS)} (hf : f_X5_find_72 l0 l1 l3 l4 l5 l6 s0 μ = some z) (hk : (Sum.elim (fun s : Nat × Nat × Nat × Nat × Int32 × Int32 × MS => WW X D cy b r μ' 8 0 0 29 [(0, .ref (b + s.1)), (1, .ref (b + s.2.1)), (3, .ref (b + s.2.2.1)), (4, .ref (b + s.2.2.2.1)), (5, .int s.2.2.2.2.1), (6, .int s.2.2.2.2.2.1)] [] s.2.2.2.2.2.2) (fun z : MS => r = none ∧ μ' = z)) z) : WW X D cy b r μ' 8 0 0 72 [(0, .ref (b + l0)), (1, .ref (b + l1)), (3, .ref (b + l3)), (4, .ref (b + l4)), (5, .int l5), (6, .int l6)] [.int s0] μ := by
  unfold f_X5_find_72 at hf
  refine r_istore hB (by decide +kernel : decode cX5_find 72 = .ok (.istore 7, 2)) (by decide) rfl ?_
  refine ww_lv (lv' := [(7, .int s0), (0, .ref (b + l0)), (1, .ref (b + l1)), (3, .ref (b + l3)), (4, .ref (b + l4)), (5, .int l5), (6, .int l6)]) rfl ?_
  refine r_iload hB 5 rfl (by decide +kernel : decode cX5_find 74 = .ok (.iload 5, 2)) ?_
  refine r_if_eq hB (tgt := 104) (by decide +kernel : decode cX5_find 76 = .ok (.ifCond .eq 28, 3)) (by decide) hf (fun _ hf => ?_) (fun _ hf => ?_)
  · exact WW.sub [1, 2, 3, 4, 6] rfl (t_X5_find_104 hB hf hk)
  · refine r_iload hB 0 rfl (by decide +kernel : decode cX5_find 79 = .ok (.iload 7, 2)) ?_
    refine r_if_eq hB (tgt := 104) (by decide +kernel : decode cX5_find 81 = .ok (.ifCond .eq 23, 3)) (by decide) hf (fun _ hf => ?_) (fun _ hf => ?_)
    · exact WW.sub [1, 2, 3, 4, 6] rfl (t_X5_find_104 hB hf hk)
    · refine r_aload_n hB 1 rfl (by decide +kernel : decode cX5_find 84 = .ok (.aload_n 0, 1)) rfl ?_
      refine r_aload hB 4 rfl (by decide +kernel : decode cX5_find 85 = .ok (.aload 4, 2)) ?_
      refine r_aload_n hB 2 rfl (by decide +kernel : decode cX5_find 87 = .ok (.aload_n 1, 1)) rfl ?_
      refine r_gR hB cf7 0 (by decide) (own := "PulseRemote$PressList") rfl (Or.inr ⟨_, k_149⟩) (by decide +kernel) (by decide +kernel : decode cX5_find 88 = .ok (.getfield 46, 3)) hf (fun x88 hf => ?_)
      refine r_cVi hB [.ref (b + l4), .ref (b + x88)] [] cf5 (own := "PulseRemote$PressList") rfl cmX5_continuesLatest imX5_continuesLatest (Or.inl k_638) (by decide) rfl rfl rfl (Nat.le_of_ble_eq_true rfl) (by decide +kernel : decode cX5_find 91 = .ok (.invokevirtual 66, 3)) (fun z hz => m_X5_continuesLatest _ _ _ _ hz) rfl hf (fun z91 hf => ?_)
      refine r_if_eq hB (tgt := 104) (by decide +kernel : decode cX5_find 94 = .ok (.ifCond .eq 10, 3)) (by decide) hf (fun _ hf => ?_) (fun _ hf => ?_)
      · exact WW.sub [1, 2, 3, 4, 6] rfl (t_X5_find_104 hB hf hk)
      · refine r_aload_n hB 1 rfl (by decide +kernel : decode cX5_find 97 = .ok (.aload_n 0, 1)) rfl ?_
        refine r_cVv hB [] [] cf5 (own := "PulseRemote$PressList") rfl cmX5_countLatest imX5_countLatest (Or.inl k_645) (by decide) rfl rfl rfl (Nat.le_of_ble_eq_true rfl) (by decide +kernel : decode cX5_find 98 = .ok (.invokevirtual 70, 3)) (fun z hz => m_X5_countLatest _ _ _ _ hz) rfl hf (fun z98 hf => ?_)
        refine r_goto hB (tgt := 137) (by decide +kernel : decode cX5_find 101 = .ok (.goto 36, 3)) (by decide) ?_
        exact WW.sub [1, 2, 3, 4, 5, 6] rfl (t_X5_find_137 hB hf hk)
set_option maxHeartbeats 4000000 in
set_option maxRecDepth 100000 in
theorem t_X5_find_29_b {X : BX} {D : va_G} {cy : Nat → ClassId} {b : Nat} {r : Option Value} {μ' : MS} (hB : BB X D cy b yX5_find cX5_find 8 none rmX5_find) {l0 : Nat} {l1 : Nat} {l3 : Nat} {l4 : Nat} {l5 : Int32} {l6 : Int32} {μ : MS} {z : ((Nat × Nat × Nat × Nat × Int32 × Int32 × MS) ⊕ MS)} (hf : f_X5_find_29_b l0 l1 l3 l4 l5 l6 μ = some z) (hk : (Sum.elim (fun s : Nat × Nat × Nat × Nat × Int32 × Int32 × MS => WW X D cy b r μ' 8 0 0 29 [(0, .ref (b + s.1)), (1, .ref (b + s.2.1)), (3, .ref (b + s.2.2.1)), (4, .ref (b + s.2.2.2.1)), (5, .int s.2.2.2.2.1), (6, .int s.2.2.2.2.2.1)] [] s.2.2.2.2.2.2) (fun z : MS => r = none ∧ μ' = z)) z) : WW X D cy b r μ' 8 0 0 29 [(0, .ref (b + l0)), (1, .ref (b + l1)), (3, .ref (b + l3)), (4, .ref (b + l4)), (5, .int l5), (6, .int l6)] [] μ := by
  unfold f_X5_find_29_b at hf
  refine r_iload hB 5 rfl (by decide +kernel : decode cX5_find 29 = .ok (.iload 6, 2)) ?_
  refine r_aload_n hB 2 rfl (by decide +kernel : decode cX5_find 31 = .ok (.aload_n 3, 1)) rfl ?_
  refine r_gI hB cf3 2 (by decide) (own := "PulseRemote$PressList") rfl (Or.inr ⟨_, k_208⟩) (by decide +kernel) (by decide +kernel : decode cX5_find 32 = .ok (.getfield 43, 3)) hf (fun x32 hf => ?_)
  refine r_icmp_ge hB (tgt := 143) (by decide +kernel : decode cX5_find 35 = .ok (.if_icmp .ge 108, 3)) (by decide) hf (fun _ hf => ?_) (fun _ hf => ?_)
  · obtain ⟨_, hx0, rfl⟩ := xr_inv hf
    exact WW.sub [] rfl (t_X5_find_143 hB hx0 hk)
  · refine r_aload hB 3 rfl (by decide +kernel : decode cX5_find 38 = .ok (.aload 4, 2)) ?_
    refine r_aload_n hB 1 rfl (by decide +kernel : decode cX5_find 40 = .ok (.aload_n 1, 1)) rfl ?_
    refine r_gR hB cf7 0 (by decide) (own := "PulseRemote$PressList") rfl (Or.inr ⟨_, k_149⟩) (by decide +kernel) (by decide +kernel : decode cX5_find 41 = .ok (.getfield 46, 3)) hf (fun x41 hf => ?_)
    refine r_aload_n hB 2 rfl (by decide +kernel : decode cX5_find 44 = .ok (.aload_n 3, 1)) rfl ?_
    refine r_iload hB 5 rfl (by decide +kernel : decode cX5_find 45 = .ok (.iload 6, 2)) ?_
    refine r_aload_n hB 1 rfl (by decide +kernel : decode cX5_find 47 = .ok (.aload_n 1, 1)) rfl ?_
    refine r_gI hB cf7 4 (by decide) (own := "PulseRemote$PressList") rfl (Or.inr ⟨_, k_159⟩) (by decide +kernel) (by decide +kernel : decode cX5_find 48 = .ok (.getfield 50, 3)) hf (fun x48 hf => ?_)
    refine r_cVv hB [.ref (b + x41), .ref (b + l3), .int l6, .int x48] [] cf2 (own := "PulseRemote$PressList") rfl cmX2_decode imX2_decode (Or.inl k_633) (by decide) rfl rfl rfl (Nat.le_of_ble_eq_true rfl) (by decide +kernel : decode cX5_find 51 = .ok (.invokevirtual 53, 3)) (fun z hz => m_X2_decode _ _ _ _ hz) rfl hf (fun z51 hf => ?_)
    refine r_aload_n hB 2 rfl (by decide +kernel : decode cX5_find 54 = .ok (.aload_n 3, 1)) rfl ?_
    refine r_iload hB 5 rfl (by decide +kernel : decode cX5_find 55 = .ok (.iload 6, 2)) ?_
    refine r_cVi hB [.int l6] [] cf3 (own := "PulseRemote$PressList") rfl cmX3_spaceBefore imX3_spaceBefore (Or.inl k_634) (by decide) rfl rfl rfl (Nat.le_of_ble_eq_true rfl) (by decide +kernel : decode cX5_find 57 = .ok (.invokevirtual 59, 3)) (fun z hz => m_X3_spaceBefore _ _ _ _ hz) rfl hf (fun z57 hf => ?_)
    refine r_aload_n hB 1 rfl (by decide +kernel : decode cX5_find 60 = .ok (.aload_n 1, 1)) rfl ?_
    refine r_gI hB cf7 3 (by decide) (own := "PulseRemote$PressList") rfl (Or.inr ⟨_, k_156⟩) (by decide +kernel) (by decide +kernel : decode cX5_find 61 = .ok (.getfield 63, 3)) hf (fun x61 hf => ?_)
    refine r_icmp_gt hB (tgt := 71) (by decide +kernel : decode cX5_find 64 = .ok (.if_icmp .gt 7, 3)) (by decide) hf (fun _ hf => ?_) (fun _ hf => ?_)
    · refine r_iconst hB (v := 0) (by decide +kernel : decode cX5_find 71 = .ok (.iconst 0, 1)) (by decide +kernel) ?_
      exact WW.sub [0, 1, 2, 3, 4, 5] rfl (t_X5_find_72 hB hf hk)
    · refine r_iconst hB (v := 1) (by decide +kernel : decode cX5_find 67 = .ok (.iconst 1, 1)) (by decide +kernel) ?_
      refine r_goto hB (tgt := 72) (by decide +kernel : decode cX5_find 68 = .ok (.goto 4, 3)) (by decide) ?_
      exact WW.sub [0, 1, 2, 3, 4, 5] rfl (t_X5_find_72 hB hf hk)
set_option maxHeartbeats 4000000 in
set_option maxRecDepth 100000 in
theorem t_X5_find_29 {X : BX} {D : va_G} {cy : Nat → ClassId} {b : Nat} {r : Option Value} {μ' : MS} (hB : BB X D cy b yX5_find cX5_find 8 none rmX5_find) {l0 : Nat} {l1 : Nat} {l3 : Nat} {l4 : Nat} {l5 : Int32} {l6 : Int32} {μ : MS} {z : MS} (hf : f_X5_find_29 l0 l1 l3 l4 l5 l6 μ = some z) (hk : (fun z : MS => r = none ∧ μ' = z) z) : WW X D cy b r μ' 8 0 0 29 [(0, .ref (b + l0)), (1, .ref (b + l1)), (3, .ref (b + l3)), (4, .ref (b + l4)), (5, .int l5), (6, .int l6)] [] μ :=
  lp_ind (P := fun s : Nat × Nat × Nat × Nat × Int32 × Int32 × MS => WW X D cy b r μ' 8 0 0 29 [(0, .ref (b + s.1)), (1, .ref (b + s.2.1)), (3, .ref (b + s.2.2.1)), (4, .ref (b + s.2.2.2.1)), (5, .int s.2.2.2.2.1), (6, .int s.2.2.2.2.2.1)] [] s.2.2.2.2.2.2) (Q := (fun z : MS => r = none ∧ μ' = z)) (fun s z hz hk => t_X5_find_29_b hB hz hk) (l0, l1, l3, l4, l5, l6, μ) z hf hk
set_option maxHeartbeats 4000000 in
set_option maxRecDepth 100000 in
theorem t_X5_find_0 {X : BX} {D : va_G} {cy : Nat → ClassId} {b : Nat} {r : Option Value} {μ' : MS} (hB : BB X D cy b yX5_find cX5_find 8 none rmX5_find) {l0 : Nat} {l1 : Nat} {l2 : Int32} {l3 : Nat} {l4 : Nat} {μ : MS} {z : MS} (hf : f_X5_find l0 l1 l2 l3 l4 μ = some z) (hk : (fun z : MS => r = none ∧ μ' = z) z) : WW X D cy b r μ' 8 0 0 0 [(0, .ref (b + l0)), (1, .ref (b + l1)), (2, .int l2), (3, .ref (b + l3)), (4, .ref (b + l4))] [] μ := by
  unfold f_X5_find at hf
  refine r_aload_n hB 3 rfl (by decide +kernel : decode cX5_find 0 = .ok (.aload_n 3, 1)) rfl ?_
  refine r_aload_n hB 1 rfl (by decide +kernel : decode cX5_find 1 = .ok (.aload_n 1, 1)) rfl ?_
  refine r_iload_n hB 2 rfl (by decide +kernel : decode cX5_find 2 = .ok (.iload_n 2, 1)) rfl ?_
  refine r_cVr hB [.int l2] [.ref (b + l3)] cf7 (own := "PulseRemote$PressList") rfl cmX7_trainAt imX7_trainAt (Or.inl k_631) (by decide) rfl rfl rfl (Nat.le_of_ble_eq_true rfl) (by decide +kernel : decode cX5_find 3 = .ok (.invokevirtual 21, 3)) (fun z hz => m_X7_trainAt _ _ _ _ hz) rfl hf (fun z3 hf => ?_)
  refine r_aload_n hB 1 rfl (by decide +kernel : decode cX5_find 6 = .ok (.aload_n 1, 1)) rfl ?_
  refine r_gI hB cf7 2 (by decide) (own := "PulseRemote$PressList") rfl (Or.inr ⟨_, k_153⟩) (by decide +kernel) (by decide +kernel : decode cX5_find 7 = .ok (.getfield 27, 3)) hf (fun x7 hf => ?_)
  refine r_cVv hB [.ref (b + z3.1), .int x7] [] cf3 (own := "PulseRemote$PressList") rfl cmX3_split imX3_split (Or.inl k_632) (by decide) rfl rfl rfl (Nat.le_of_ble_eq_true rfl) (by decide +kernel : decode cX5_find 10 = .ok (.invokevirtual 31, 3)) (fun z hz => m_X3_split _ _ _ _ hz) rfl hf (fun z10 hf => ?_)
  refine r_aload_n hB 0 rfl (by decide +kernel : decode cX5_find 13 = .ok (.aload_n 0, 1)) rfl ?_
  refine r_iconst hB (v := 0) (by decide +kernel : decode cX5_find 14 = .ok (.iconst 0, 1)) (by decide +kernel) ?_
  refine r_pI hB cf5 3 (by decide) (own := "PulseRemote$PressList") rfl (Or.inl k_263) (Or.inl rfl) rfl (by decide +kernel : decode cX5_find 15 = .ok (.putfield 37, 3)) hf (fun m15 hf => ?_)
  refine r_aload_n hB 0 rfl (by decide +kernel : decode cX5_find 18 = .ok (.aload_n 0, 1)) rfl ?_
  refine r_iconst hB (v := 0) (by decide +kernel : decode cX5_find 19 = .ok (.iconst 0, 1)) (by decide +kernel) ?_
  refine r_pI hB cf5 4 (by decide) (own := "PulseRemote$PressList") rfl (Or.inl k_265) (Or.inl rfl) rfl (by decide +kernel : decode cX5_find 20 = .ok (.putfield 40, 3)) hf (fun m20 hf => ?_)
  refine r_iconst hB (v := 0) (by decide +kernel : decode cX5_find 23 = .ok (.iconst 0, 1)) (by decide +kernel) ?_
  refine r_istore hB (by decide +kernel : decode cX5_find 24 = .ok (.istore 5, 2)) (by decide) rfl ?_
  refine ww_lv (lv' := [(5, .int 0), (0, .ref (b + l0)), (1, .ref (b + l1)), (2, .int l2), (3, .ref (b + l3)), (4, .ref (b + l4))]) rfl ?_
  refine r_iconst hB (v := 0) (by decide +kernel : decode cX5_find 26 = .ok (.iconst 0, 1)) (by decide +kernel) ?_
  refine r_istore hB (by decide +kernel : decode cX5_find 27 = .ok (.istore 6, 2)) (by decide) rfl ?_
  refine ww_lv (lv' := [(6, .int 0), (5, .int 0), (0, .ref (b + l0)), (1, .ref (b + l1)), (2, .int l2), (3, .ref (b + l3)), (4, .ref (b + l4))]) rfl ?_
  exact WW.sub [2, 3, 5, 6, 1, 0] rfl (t_X5_find_29 hB hf hk)
theorem m_X5_find (l : Launch) (D : va_G) (cy : Nat → ClassId) (b : Nat) {l0 : Nat} {l1 : Nat} {l2 : Int32} {l3 : Nat} {l4 : Nat} {μ : MS} {z : MS} (hf : f_X5_find l0 l1 l2 l3 l4 μ = some z) : Met l yX5_find (.code yX5_find cX5_find 8 none :: GW) rmX5_find (Pw D cy b [.ref (b + l0), .ref (b + l1), .int l2, .ref (b + l3), .ref (b + l4)] μ) (Qw D cy b (none) (z)) rmX5_find.cells rmX5_find.slots (fun q => b ≤ q) :=
  met_of (by decide) (Nat.le_of_ble_eq_true rfl) (fun X hB _ => (t_X5_find_0 hB hf ⟨rfl, rfl⟩))
-- PulseRemote.pressCount(I)I
set_option maxHeartbeats 4000000 in
set_option maxRecDepth 100000 in
theorem t_X11_pressCount_0 {X : BX} {D : va_G} {cy : Nat → ClassId} {b : Nat} {r : Option Value} {μ' : MS} (hB : BB X D cy b yX11_pressCount cX11_pressCount 2 (some .int) rmX11_pressCount) {l0 : Nat} {l1 : Int32} {μ : MS} {z : (Int32 × MS)} (hf : f_X11_pressCount l0 l1 μ = some z) (hk : (fun z : Int32 × MS => r = some (.int z.1) ∧ μ' = z.2) z) : WW X D cy b r μ' 2 0 0 0 [(0, .ref (b + l0)), (1, .int l1)] [] μ := by
  unfold f_X11_pressCount at hf
  refine r_iload_n hB 1 rfl (by decide +kernel : decode cX11_pressCount 0 = .ok (.iload_n 1, 1)) rfl ?_
  refine r_cSi hB [.int l1] [] (own := "PulseRemote") rfl cmX11_isSlot smX11_isSlot (Or.inl ⟨rfl, k_485⟩) (by decide) rfl rfl rfl (Nat.le_of_ble_eq_true rfl) (by decide +kernel : decode cX11_pressCount 1 = .ok (.invokestatic 156, 3)) (fun z hz => m_X11_isSlot _ _ _ _ hz) rfl hf (fun z1 hf => ?_)
  refine r_if_ne hB (tgt := 9) (by decide +kernel : decode cX11_pressCount 4 = .ok (.ifCond .ne 5, 3)) (by decide) hf (fun _ hf => ?_) (fun _ hf => ?_)
  · refine r_iconst hB (v := (-1)) (by decide +kernel : decode cX11_pressCount 7 = .ok (.iconst (-1), 1)) (by decide +kernel) ?_
    obtain rfl := Option.some.inj hf
    obtain ⟨rfl, rfl⟩ := hk
    exact r_iret hB (by decide +kernel : decode cX11_pressCount 8 = .ok (.ireturn, 1))
  · refine r_aload_n hB 0 rfl (by decide +kernel : decode cX11_pressCount 9 = .ok (.aload_n 0, 1)) rfl ?_
    refine r_gR hB cf11 9 (by decide) (own := "PulseRemote") rfl (Or.inl k_404) (by decide +kernel) (by decide +kernel : decode cX11_pressCount 10 = .ok (.getfield 62, 3)) hf (fun x10 hf => ?_)
    refine r_aload_n hB 0 rfl (by decide +kernel : decode cX11_pressCount 13 = .ok (.aload_n 0, 1)) rfl ?_
    refine r_gR hB cf11 0 (by decide) (own := "PulseRemote") rfl (Or.inl k_395) (by decide +kernel) (by decide +kernel : decode cX11_pressCount 14 = .ok (.getfield 12, 3)) hf (fun x14 hf => ?_)
    refine r_iload_n hB 1 rfl (by decide +kernel : decode cX11_pressCount 17 = .ok (.iload_n 1, 1)) rfl ?_
    refine r_aload_n hB 0 rfl (by decide +kernel : decode cX11_pressCount 18 = .ok (.aload_n 0, 1)) rfl ?_
    refine r_gR hB cf11 7 (by decide) (own := "PulseRemote") rfl (Or.inl k_402) (by decide +kernel) (by decide +kernel : decode cX11_pressCount 19 = .ok (.getfield 48, 3)) hf (fun x19 hf => ?_)
    refine r_aload_n hB 0 rfl (by decide +kernel : decode cX11_pressCount 22 = .ok (.aload_n 0, 1)) rfl ?_
    refine r_gR hB cf11 8 (by decide) (own := "PulseRemote") rfl (Or.inl k_403) (by decide +kernel) (by decide +kernel : decode cX11_pressCount 23 = .ok (.getfield 55, 3)) hf (fun x23 hf => ?_)
    refine r_cVv hB [.ref (b + x14), .int l1, .ref (b + x19), .ref (b + x23)] [] cf5 (own := "PulseRemote") rfl cmX5_find imX5_find (Or.inl k_627) (by decide) rfl rfl rfl (Nat.le_of_ble_eq_true rfl) (by decide +kernel : decode cX11_pressCount 26 = .ok (.invokevirtual 315, 3)) (fun z hz => m_X5_find _ _ _ _ hz) rfl hf (fun z26 hf => ?_)
    refine r_aload_n hB 0 rfl (by decide +kernel : decode cX11_pressCount 29 = .ok (.aload_n 0, 1)) rfl ?_
    refine r_gR hB cf11 9 (by decide) (own := "PulseRemote") rfl (Or.inl k_404) (by decide +kernel) (by decide +kernel : decode cX11_pressCount 30 = .ok (.getfield 62, 3)) hf (fun x30 hf => ?_)
    refine r_gI hB cf5 3 (by decide) (own := "PulseRemote") rfl (Or.inr ⟨_, k_264⟩) (by decide +kernel) (by decide +kernel : decode cX11_pressCount 33 = .ok (.getfield 319, 3)) hf (fun x33 hf => ?_)
    obtain rfl := Option.some.inj hf
    obtain ⟨rfl, rfl⟩ := hk
    exact r_iret hB (by decide +kernel : decode cX11_pressCount 36 = .ok (.ireturn, 1))
theorem m_X11_pressCount (l : Launch) (D : va_G) (cy : Nat → ClassId) (b : Nat) {l0 : Nat} {l1 : Int32} {μ : MS} {z : Int32 × MS} (hf : f_X11_pressCount l0 l1 μ = some z) : Met l yX11_pressCount (.code yX11_pressCount cX11_pressCount 2 (some .int) :: GW) rmX11_pressCount (Pw D cy b [.ref (b + l0), .int l1] μ) (Qw D cy b (some (.int z.1)) (z.2)) rmX11_pressCount.cells rmX11_pressCount.slots (fun q => b ≤ q) :=
  met_of (by decide) (Nat.le_of_ble_eq_true rfl) (fun X hB _ => (t_X11_pressCount_0 hB hf ⟨rfl, rfl⟩))
-- PulseRemote$Table.findButtonOf(II)I
set_option maxHeartbeats 4000000 in
set_option maxRecDepth 100000 in
theorem t_X8_findButtonOf_0 {X : BX} {D : va_G} {cy : Nat → ClassId} {b : Nat} {r : Option Value} {μ' : MS} (hB : BB X D cy b yX8_findButtonOf cX8_findButtonOf 3 (some .int) rmX8_findButtonOf) {l0 : Nat} {l1 : Int32} {l2 : Int32} {μ : MS} {z : (Int32 × MS)} (hf : f_X8_findButtonOf l0 l1 l2 μ = some z) (hk : (fun z : Int32 × MS => r = some (.int z.1) ∧ μ' = z.2) z) : WW X D cy b r μ' 3 0 0 0 [(0, .ref (b + l0)), (1, .int l1), (2, .int l2)] [] μ := by
  unfold f_X8_findButtonOf at hf
  refine r_aload_n hB 0 rfl (by decide +kernel : decode cX8_findButtonOf 0 = .ok (.aload_n 0, 1)) rfl ?_
  refine r_iload_n hB 1 rfl (by decide +kernel : decode cX8_findButtonOf 1 = .ok (.iload_n 1, 1)) rfl ?_
  refine r_aload_n hB 0 rfl (by decide +kernel : decode cX8_findButtonOf 2 = .ok (.aload_n 0, 1)) rfl ?_
  refine r_iload_n hB 1 rfl (by decide +kernel : decode cX8_findButtonOf 3 = .ok (.iload_n 1, 1)) rfl ?_
  refine r_cVr hB [.int l1] [.int l1, .ref (b + l0)] cf8 (own := "PulseRemote$Table") rfl cmX8_protocolAt imX8_protocolAt (Or.inl k_661) (by decide) rfl rfl rfl (Nat.le_of_ble_eq_true rfl) (by decide +kernel : decode cX8_findButtonOf 4 = .ok (.invokevirtual 42, 3)) (fun z hz => m_X8_protocolAt _ _ _ _ hz) rfl hf (fun z4 hf => ?_)
  refine r_iload_n hB 2 rfl (by decide +kernel : decode cX8_findButtonOf 7 = .ok (.iload_n 2, 1)) rfl ?_
  refine r_cVi hB [.int l2] [.int l1, .ref (b + l0)] cf6 (own := "PulseRemote$Table") rfl cmX6_identityOf imX6_identityOf (Or.inl k_662) (by decide) rfl rfl rfl (Nat.le_of_ble_eq_true rfl) (by decide +kernel : decode cX8_findButtonOf 8 = .ok (.invokevirtual 65, 3)) (fun z hz => m_X6_identityOf _ _ _ _ hz) rfl hf (fun z8 hf => ?_)
  refine r_cVi hB [.int l1, .int z8.1] [] cf8 (own := "PulseRemote$Table") rfl cmX8_findButton imX8_findButton (Or.inl k_666) (by decide) rfl rfl rfl (Nat.le_of_ble_eq_true rfl) (by decide +kernel : decode cX8_findButtonOf 11 = .ok (.invokevirtual 68, 3)) (fun z hz => m_X8_findButton _ _ _ _ hz) rfl hf (fun z11 hf => ?_)
  obtain rfl := Option.some.inj hf
  obtain ⟨rfl, rfl⟩ := hk
  exact r_iret hB (by decide +kernel : decode cX8_findButtonOf 14 = .ok (.ireturn, 1))
theorem m_X8_findButtonOf (l : Launch) (D : va_G) (cy : Nat → ClassId) (b : Nat) {l0 : Nat} {l1 : Int32} {l2 : Int32} {μ : MS} {z : Int32 × MS} (hf : f_X8_findButtonOf l0 l1 l2 μ = some z) : Met l yX8_findButtonOf (.code yX8_findButtonOf cX8_findButtonOf 3 (some .int) :: GW) rmX8_findButtonOf (Pw D cy b [.ref (b + l0), .int l1, .int l2] μ) (Qw D cy b (some (.int z.1)) (z.2)) rmX8_findButtonOf.cells rmX8_findButtonOf.slots (fun q => b ≤ q) :=
  met_of (by decide) (Nat.le_of_ble_eq_true rfl) (fun X hB _ => (t_X8_findButtonOf_0 hB hf ⟨rfl, rfl⟩))
-- PulseRemote.press(III)I
set_option maxHeartbeats 4000000 in
set_option maxRecDepth 100000 in
theorem t_X11_press_0 {X : BX} {D : va_G} {cy : Nat → ClassId} {b : Nat} {r : Option Value} {μ' : MS} (hB : BB X D cy b yX11_press cX11_press 4 (some .int) rmX11_press) {l0 : Nat} {l1 : Int32} {l2 : Int32} {l3 : Int32} {μ : MS} {z : (Int32 × MS)} (hf : f_X11_press l0 l1 l2 l3 μ = some z) (hk : (fun z : Int32 × MS => r = some (.int z.1) ∧ μ' = z.2) z) : WW X D cy b r μ' 4 0 0 0 [(0, .ref (b + l0)), (1, .int l1), (2, .int l2), (3, .int l3)] [] μ := by
  unfold f_X11_press at hf
  refine r_iload_n hB 1 rfl (by decide +kernel : decode cX11_press 0 = .ok (.iload_n 1, 1)) rfl ?_
  refine r_cSi hB [.int l1] [] (own := "PulseRemote") rfl cmX11_isSlot smX11_isSlot (Or.inl ⟨rfl, k_485⟩) (by decide) rfl rfl rfl (Nat.le_of_ble_eq_true rfl) (by decide +kernel : decode cX11_press 1 = .ok (.invokestatic 156, 3)) (fun z hz => m_X11_isSlot _ _ _ _ hz) rfl hf (fun z1 hf => ?_)
  refine r_if_eq hB (tgt := 20) (by decide +kernel : decode cX11_press 4 = .ok (.ifCond .eq 16, 3)) (by decide) hf (fun _ hf => ?_) (fun _ hf => ?_)
  · refine r_iconst hB (v := (-1)) (by decide +kernel : decode cX11_press 20 = .ok (.iconst (-1), 1)) (by decide +kernel) ?_
    obtain rfl := Option.some.inj hf
    obtain ⟨rfl, rfl⟩ := hk
    exact r_iret hB (by decide +kernel : decode cX11_press 21 = .ok (.ireturn, 1))
  · refine r_iload_n hB 2 rfl (by decide +kernel : decode cX11_press 7 = .ok (.iload_n 2, 1)) rfl ?_
    refine r_if_lt hB (tgt := 20) (by decide +kernel : decode cX11_press 8 = .ok (.ifCond .lt 12, 3)) (by decide) hf (fun _ hf => ?_) (fun _ hf => ?_)
    · refine r_iconst hB (v := (-1)) (by decide +kernel : decode cX11_press 20 = .ok (.iconst (-1), 1)) (by decide +kernel) ?_
      obtain rfl := Option.some.inj hf
      obtain ⟨rfl, rfl⟩ := hk
      exact r_iret hB (by decide +kernel : decode cX11_press 21 = .ok (.ireturn, 1))
    · refine r_iload_n hB 3 rfl (by decide +kernel : decode cX11_press 11 = .ok (.iload_n 3, 1)) rfl ?_
      refine r_iconst hB (v := 0) (by decide +kernel : decode cX11_press 12 = .ok (.iconst 0, 1)) (by decide +kernel) ?_
      refine r_iconst hB (v := 3) (by decide +kernel : decode cX11_press 13 = .ok (.iconst 3, 1)) (by decide +kernel) ?_
      refine r_cSi hB [.int l3, .int 0, .int 3] [] (own := "PulseRemote") rfl cmX11_inRange smX11_inRange (Or.inl ⟨rfl, k_440⟩) (by decide) rfl rfl rfl (Nat.le_of_ble_eq_true rfl) (by decide +kernel : decode cX11_press 14 = .ok (.invokestatic 80, 3)) (fun z hz => m_X11_inRange _ _ _ _ hz) rfl hf (fun z14 hf => ?_)
      refine r_if_ne hB (tgt := 22) (by decide +kernel : decode cX11_press 17 = .ok (.ifCond .ne 5, 3)) (by decide) hf (fun _ hf => ?_) (fun _ hf => ?_)
      · refine r_iconst hB (v := (-1)) (by decide +kernel : decode cX11_press 20 = .ok (.iconst (-1), 1)) (by decide +kernel) ?_
        obtain rfl := Option.some.inj hf
        obtain ⟨rfl, rfl⟩ := hk
        exact r_iret hB (by decide +kernel : decode cX11_press 21 = .ok (.ireturn, 1))
      · refine r_aload_n hB 0 rfl (by decide +kernel : decode cX11_press 22 = .ok (.aload_n 0, 1)) rfl ?_
        refine r_gR hB cf11 9 (by decide) (own := "PulseRemote") rfl (Or.inl k_404) (by decide +kernel) (by decide +kernel : decode cX11_press 23 = .ok (.getfield 62, 3)) hf (fun x23 hf => ?_)
        refine r_aload_n hB 0 rfl (by decide +kernel : decode cX11_press 26 = .ok (.aload_n 0, 1)) rfl ?_
        refine r_gR hB cf11 0 (by decide) (own := "PulseRemote") rfl (Or.inl k_395) (by decide +kernel) (by decide +kernel : decode cX11_press 27 = .ok (.getfield 12, 3)) hf (fun x27 hf => ?_)
        refine r_iload_n hB 1 rfl (by decide +kernel : decode cX11_press 30 = .ok (.iload_n 1, 1)) rfl ?_
        refine r_aload_n hB 0 rfl (by decide +kernel : decode cX11_press 31 = .ok (.aload_n 0, 1)) rfl ?_
        refine r_gR hB cf11 7 (by decide) (own := "PulseRemote") rfl (Or.inl k_402) (by decide +kernel) (by decide +kernel : decode cX11_press 32 = .ok (.getfield 48, 3)) hf (fun x32 hf => ?_)
        refine r_aload_n hB 0 rfl (by decide +kernel : decode cX11_press 35 = .ok (.aload_n 0, 1)) rfl ?_
        refine r_gR hB cf11 8 (by decide) (own := "PulseRemote") rfl (Or.inl k_403) (by decide +kernel) (by decide +kernel : decode cX11_press 36 = .ok (.getfield 55, 3)) hf (fun x36 hf => ?_)
        refine r_cVv hB [.ref (b + x27), .int l1, .ref (b + x32), .ref (b + x36)] [] cf5 (own := "PulseRemote") rfl cmX5_find imX5_find (Or.inl k_627) (by decide) rfl rfl rfl (Nat.le_of_ble_eq_true rfl) (by decide +kernel : decode cX11_press 39 = .ok (.invokevirtual 315, 3)) (fun z hz => m_X5_find _ _ _ _ hz) rfl hf (fun z39 hf => ?_)
        refine r_iload_n hB 2 rfl (by decide +kernel : decode cX11_press 42 = .ok (.iload_n 2, 1)) rfl ?_
        refine r_aload_n hB 0 rfl (by decide +kernel : decode cX11_press 43 = .ok (.aload_n 0, 1)) rfl ?_
        refine r_gR hB cf11 9 (by decide) (own := "PulseRemote") rfl (Or.inl k_404) (by decide +kernel) (by decide +kernel : decode cX11_press 44 = .ok (.getfield 62, 3)) hf (fun x44 hf => ?_)
        refine r_gI hB cf5 3 (by decide) (own := "PulseRemote") rfl (Or.inr ⟨_, k_264⟩) (by decide +kernel) (by decide +kernel : decode cX11_press 47 = .ok (.getfield 319, 3)) hf (fun x47 hf => ?_)
        refine r_icmp_lt hB (tgt := 56) (by decide +kernel : decode cX11_press 50 = .ok (.if_icmp .lt 6, 3)) (by decide) hf (fun _ hf => ?_) (fun _ hf => ?_)
        · refine r_iload_n hB 3 rfl (by decide +kernel : decode cX11_press 56 = .ok (.iload_n 3, 1)) rfl ?_
          rcases if_inv hf with ⟨hc, hf⟩ | ⟨h_0, hf⟩
          · rw [hc]
            refine r_tabIn hB (off := 27) (tgt := 84) (by decide +kernel : decode cX11_press 57 = .ok (.tableswitch 57 0 2 #[27, 37, 47], 27)) (by decide) (by decide) (by decide +kernel) (by decide) ?_
            refine r_aload_n hB 0 rfl (by decide +kernel : decode cX11_press 84 = .ok (.aload_n 0, 1)) rfl ?_
            refine r_gR hB cf11 9 (by decide) (own := "PulseRemote") rfl (Or.inl k_404) (by decide +kernel) (by decide +kernel : decode cX11_press 85 = .ok (.getfield 62, 3)) hf (fun x85 hf => ?_)
            refine r_gR hB cf5 0 (by decide) (own := "PulseRemote") rfl (Or.inr ⟨_, k_258⟩) (by decide +kernel) (by decide +kernel : decode cX11_press 88 = .ok (.getfield 322, 3)) hf (fun x88 hf => ?_)
            refine r_iload_n hB 2 rfl (by decide +kernel : decode cX11_press 91 = .ok (.iload_n 2, 1)) rfl ?_
            refine r_iald hB (by decide +kernel : decode cX11_press 92 = .ok (.iaload, 1)) hf (fun x92 hf => ?_)
            obtain rfl := Option.some.inj hf
            obtain ⟨rfl, rfl⟩ := hk
            exact r_iret hB (by decide +kernel : decode cX11_press 93 = .ok (.ireturn, 1))
          rcases if_inv hf with ⟨hc, hf⟩ | ⟨h_1, hf⟩
          · rw [hc]
            refine r_tabIn hB (off := 37) (tgt := 94) (by decide +kernel : decode cX11_press 57 = .ok (.tableswitch 57 0 2 #[27, 37, 47], 27)) (by decide) (by decide) (by decide +kernel) (by decide) ?_
            refine r_aload_n hB 0 rfl (by decide +kernel : decode cX11_press 94 = .ok (.aload_n 0, 1)) rfl ?_
            refine r_gR hB cf11 9 (by decide) (own := "PulseRemote") rfl (Or.inl k_404) (by decide +kernel) (by decide +kernel : decode cX11_press 95 = .ok (.getfield 62, 3)) hf (fun x95 hf => ?_)
            refine r_gR hB cf5 1 (by decide) (own := "PulseRemote") rfl (Or.inr ⟨_, k_260⟩) (by decide +kernel) (by decide +kernel : decode cX11_press 98 = .ok (.getfield 326, 3)) hf (fun x98 hf => ?_)
            refine r_iload_n hB 2 rfl (by decide +kernel : decode cX11_press 101 = .ok (.iload_n 2, 1)) rfl ?_
            refine r_iald hB (by decide +kernel : decode cX11_press 102 = .ok (.iaload, 1)) hf (fun x102 hf => ?_)
            obtain rfl := Option.some.inj hf
            obtain ⟨rfl, rfl⟩ := hk
            exact r_iret hB (by decide +kernel : decode cX11_press 103 = .ok (.ireturn, 1))
          rcases if_inv hf with ⟨hc, hf⟩ | ⟨h_2, hf⟩
          · rw [hc]
            refine r_tabIn hB (off := 47) (tgt := 104) (by decide +kernel : decode cX11_press 57 = .ok (.tableswitch 57 0 2 #[27, 37, 47], 27)) (by decide) (by decide) (by decide +kernel) (by decide) ?_
            refine r_aload_n hB 0 rfl (by decide +kernel : decode cX11_press 104 = .ok (.aload_n 0, 1)) rfl ?_
            refine r_gR hB cf11 9 (by decide) (own := "PulseRemote") rfl (Or.inl k_404) (by decide +kernel) (by decide +kernel : decode cX11_press 105 = .ok (.getfield 62, 3)) hf (fun x105 hf => ?_)
            refine r_gR hB cf5 2 (by decide) (own := "PulseRemote") rfl (Or.inr ⟨_, k_262⟩) (by decide +kernel) (by decide +kernel : decode cX11_press 108 = .ok (.getfield 329, 3)) hf (fun x108 hf => ?_)
            refine r_iload_n hB 2 rfl (by decide +kernel : decode cX11_press 111 = .ok (.iload_n 2, 1)) rfl ?_
            refine r_iald hB (by decide +kernel : decode cX11_press 112 = .ok (.iaload, 1)) hf (fun x112 hf => ?_)
            obtain rfl := Option.some.inj hf
            obtain ⟨rfl, rfl⟩ := hk
            exact r_iret hB (by decide +kernel : decode cX11_press 113 = .ok (.ireturn, 1))
          refine r_tabOut hB (tgt := 114) (by decide +kernel : decode cX11_press 57 = .ok (.tableswitch 57 0 2 #[27, 37, 47], 27)) (by
            have g_0 := lv_neT (a := 0) h_0 (by decide)
            have g_1 := lv_neT (a := 1) h_1 (by decide)
            have g_2 := lv_neT (a := 2) h_2 (by decide)
            omega) (by decide) ?_
          refine r_aload_n hB 0 rfl (by decide +kernel : decode cX11_press 114 = .ok (.aload_n 0, 1)) rfl ?_
          refine r_gR hB cf11 0 (by decide) (own := "PulseRemote") rfl (Or.inl k_395) (by decide +kernel) (by decide +kernel : decode cX11_press 115 = .ok (.getfield 12, 3)) hf (fun x115 hf => ?_)
          refine r_gR hB cf7 0 (by decide) (own := "PulseRemote") rfl (Or.inr ⟨_, k_150⟩) (by decide +kernel) (by decide +kernel : decode cX11_press 118 = .ok (.getfield 84, 3)) hf (fun x118 hf => ?_)
          refine r_aload_n hB 0 rfl (by decide +kernel : decode cX11_press 121 = .ok (.aload_n 0, 1)) rfl ?_
          refine r_gR hB cf11 9 (by decide) (own := "PulseRemote") rfl (Or.inl k_404) (by decide +kernel) (by decide +kernel : decode cX11_press 122 = .ok (.getfield 62, 3)) hf (fun x122 hf => ?_)
          refine r_gR hB cf5 0 (by decide) (own := "PulseRemote") rfl (Or.inr ⟨_, k_258⟩) (by decide +kernel) (by decide +kernel : decode cX11_press 125 = .ok (.getfield 322, 3)) hf (fun x125 hf => ?_)
          refine r_iload_n hB 2 rfl (by decide +kernel : decode cX11_press 128 = .ok (.iload_n 2, 1)) rfl ?_
          refine r_iald hB (by decide +kernel : decode cX11_press 129 = .ok (.iaload, 1)) hf (fun x129 hf => ?_)
          refine r_aload_n hB 0 rfl (by decide +kernel : decode cX11_press 130 = .ok (.aload_n 0, 1)) rfl ?_
          refine r_gR hB cf11 9 (by decide) (own := "PulseRemote") rfl (Or.inl k_404) (by decide +kernel) (by decide +kernel : decode cX11_press 131 = .ok (.getfield 62, 3)) hf (fun x131 hf => ?_)
          refine r_gR hB cf5 1 (by decide) (own := "PulseRemote") rfl (Or.inr ⟨_, k_260⟩) (by decide +kernel) (by decide +kernel : decode cX11_press 134 = .ok (.getfield 326, 3)) hf (fun x134 hf => ?_)
          refine r_iload_n hB 2 rfl (by decide +kernel : decode cX11_press 137 = .ok (.iload_n 2, 1)) rfl ?_
          refine r_iald hB (by decide +kernel : decode cX11_press 138 = .ok (.iaload, 1)) hf (fun x138 hf => ?_)
          refine r_cVi hB [.int x129, .int x138] [] cf8 (own := "PulseRemote") rfl cmX8_findButtonOf imX8_findButtonOf (Or.inl k_657) (by decide) rfl rfl rfl (Nat.le_of_ble_eq_true rfl) (by decide +kernel : decode cX11_press 139 = .ok (.invokevirtual 332, 3)) (fun z hz => m_X8_findButtonOf _ _ _ _ hz) rfl hf (fun z139 hf => ?_)
          obtain rfl := Option.some.inj hf
          obtain ⟨rfl, rfl⟩ := hk
          exact r_iret hB (by decide +kernel : decode cX11_press 142 = .ok (.ireturn, 1))
        · refine r_bipush hB (v := (-9)) (by decide +kernel : decode cX11_press 53 = .ok (.bipush (-9), 2)) (by decide +kernel) ?_
          obtain rfl := Option.some.inj hf
          obtain ⟨rfl, rfl⟩ := hk
          exact r_iret hB (by decide +kernel : decode cX11_press 55 = .ok (.ireturn, 1))
theorem m_X11_press (l : Launch) (D : va_G) (cy : Nat → ClassId) (b : Nat) {l0 : Nat} {l1 : Int32} {l2 : Int32} {l3 : Int32} {μ : MS} {z : Int32 × MS} (hf : f_X11_press l0 l1 l2 l3 μ = some z) : Met l yX11_press (.code yX11_press cX11_press 4 (some .int) :: GW) rmX11_press (Pw D cy b [.ref (b + l0), .int l1, .int l2, .int l3] μ) (Qw D cy b (some (.int z.1)) (z.2)) rmX11_press.cells rmX11_press.slots (fun q => b ≤ q) :=
  met_of (by decide) (Nat.le_of_ble_eq_true rfl) (fun X hB _ => (t_X11_press_0 hB hf ⟨rfl, rfl⟩))
-- PulseRemote.strayCount(I)I
set_option maxHeartbeats 4000000 in
set_option maxRecDepth 100000 in
theorem t_X11_strayCount_0 {X : BX} {D : va_G} {cy : Nat → ClassId} {b : Nat} {r : Option Value} {μ' : MS} (hB : BB X D cy b yX11_strayCount cX11_strayCount 2 (some .int) rmX11_strayCount) {l0 : Nat} {l1 : Int32} {μ : MS} {z : (Int32 × MS)} (hf : f_X11_strayCount l0 l1 μ = some z) (hk : (fun z : Int32 × MS => r = some (.int z.1) ∧ μ' = z.2) z) : WW X D cy b r μ' 2 0 0 0 [(0, .ref (b + l0)), (1, .int l1)] [] μ := by
  unfold f_X11_strayCount at hf
  refine r_iload_n hB 1 rfl (by decide +kernel : decode cX11_strayCount 0 = .ok (.iload_n 1, 1)) rfl ?_
  refine r_cSi hB [.int l1] [] (own := "PulseRemote") rfl cmX11_isSlot smX11_isSlot (Or.inl ⟨rfl, k_485⟩) (by decide) rfl rfl rfl (Nat.le_of_ble_eq_true rfl) (by decide +kernel : decode cX11_strayCount 1 = .ok (.invokestatic 156, 3)) (fun z hz => m_X11_isSlot _ _ _ _ hz) rfl hf (fun z1 hf => ?_)
  refine r_if_ne hB (tgt := 9) (by decide +kernel : decode cX11_strayCount 4 = .ok (.ifCond .ne 5, 3)) (by decide) hf (fun _ hf => ?_) (fun _ hf => ?_)
  · refine r_iconst hB (v := (-1)) (by decide +kernel : decode cX11_strayCount 7 = .ok (.iconst (-1), 1)) (by decide +kernel) ?_
    obtain rfl := Option.some.inj hf
    obtain ⟨rfl, rfl⟩ := hk
    exact r_iret hB (by decide +kernel : decode cX11_strayCount 8 = .ok (.ireturn, 1))
  · refine r_aload_n hB 0 rfl (by decide +kernel : decode cX11_strayCount 9 = .ok (.aload_n 0, 1)) rfl ?_
    refine r_gR hB cf11 9 (by decide) (own := "PulseRemote") rfl (Or.inl k_404) (by decide +kernel) (by decide +kernel : decode cX11_strayCount 10 = .ok (.getfield 62, 3)) hf (fun x10 hf => ?_)
    refine r_aload_n hB 0 rfl (by decide +kernel : decode cX11_strayCount 13 = .ok (.aload_n 0, 1)) rfl ?_
    refine r_gR hB cf11 0 (by decide) (own := "PulseRemote") rfl (Or.inl k_395) (by decide +kernel) (by decide +kernel : decode cX11_strayCount 14 = .ok (.getfield 12, 3)) hf (fun x14 hf => ?_)
    refine r_iload_n hB 1 rfl (by decide +kernel : decode cX11_strayCount 17 = .ok (.iload_n 1, 1)) rfl ?_
    refine r_aload_n hB 0 rfl (by decide +kernel : decode cX11_strayCount 18 = .ok (.aload_n 0, 1)) rfl ?_
    refine r_gR hB cf11 7 (by decide) (own := "PulseRemote") rfl (Or.inl k_402) (by decide +kernel) (by decide +kernel : decode cX11_strayCount 19 = .ok (.getfield 48, 3)) hf (fun x19 hf => ?_)
    refine r_aload_n hB 0 rfl (by decide +kernel : decode cX11_strayCount 22 = .ok (.aload_n 0, 1)) rfl ?_
    refine r_gR hB cf11 8 (by decide) (own := "PulseRemote") rfl (Or.inl k_403) (by decide +kernel) (by decide +kernel : decode cX11_strayCount 23 = .ok (.getfield 55, 3)) hf (fun x23 hf => ?_)
    refine r_cVv hB [.ref (b + x14), .int l1, .ref (b + x19), .ref (b + x23)] [] cf5 (own := "PulseRemote") rfl cmX5_find imX5_find (Or.inl k_627) (by decide) rfl rfl rfl (Nat.le_of_ble_eq_true rfl) (by decide +kernel : decode cX11_strayCount 26 = .ok (.invokevirtual 315, 3)) (fun z hz => m_X5_find _ _ _ _ hz) rfl hf (fun z26 hf => ?_)
    refine r_aload_n hB 0 rfl (by decide +kernel : decode cX11_strayCount 29 = .ok (.aload_n 0, 1)) rfl ?_
    refine r_gR hB cf11 9 (by decide) (own := "PulseRemote") rfl (Or.inl k_404) (by decide +kernel) (by decide +kernel : decode cX11_strayCount 30 = .ok (.getfield 62, 3)) hf (fun x30 hf => ?_)
    refine r_gI hB cf5 4 (by decide) (own := "PulseRemote") rfl (Or.inr ⟨_, k_266⟩) (by decide +kernel) (by decide +kernel : decode cX11_strayCount 33 = .ok (.getfield 335, 3)) hf (fun x33 hf => ?_)
    obtain rfl := Option.some.inj hf
    obtain ⟨rfl, rfl⟩ := hk
    exact r_iret hB (by decide +kernel : decode cX11_strayCount 36 = .ok (.ireturn, 1))
theorem m_X11_strayCount (l : Launch) (D : va_G) (cy : Nat → ClassId) (b : Nat) {l0 : Nat} {l1 : Int32} {μ : MS} {z : Int32 × MS} (hf : f_X11_strayCount l0 l1 μ = some z) : Met l yX11_strayCount (.code yX11_strayCount cX11_strayCount 2 (some .int) :: GW) rmX11_strayCount (Pw D cy b [.ref (b + l0), .int l1] μ) (Qw D cy b (some (.int z.1)) (z.2)) rmX11_strayCount.cells rmX11_strayCount.slots (fun q => b ≤ q) :=
  met_of (by decide) (Nat.le_of_ble_eq_true rfl) (fun X hB _ => (t_X11_strayCount_0 hB hf ⟨rfl, rfl⟩))
-- PulseRemote.toleranceFor(II)I
set_option maxHeartbeats 4000000 in
set_option maxRecDepth 100000 in
theorem t_X11_toleranceFor_46 {X : BX} {D : va_G} {cy : Nat → ClassId} {b : Nat} {r : Option Value} {μ' : MS} (hB : BB X D cy b yX11_toleranceFor cX11_toleranceFor 4 (some .int) rmX11_toleranceFor)  {μ : MS} {z : (Int32 × MS)} (hf : f_X11_toleranceFor_46  μ = some z) (hk : (fun z : Int32 × MS => r = some (.int z.1) ∧ μ' = z.2) z) : WW X D cy b r μ' 4 0 0 46 [] [] μ := by
  unfold f_X11_toleranceFor_46 at hf
  refine r_bipush hB (v := (-9)) (by decide +kernel : decode cX11_toleranceFor 46 = .ok (.bipush (-9), 2)) (by decide +kernel) ?_
  obtain rfl := Option.some.inj hf
  obtain ⟨rfl, rfl⟩ := hk
  exact r_iret hB (by decide +kernel : decode cX11_toleranceFor 48 = .ok (.ireturn, 1))
set_option maxHeartbeats 4000000 in
set_option maxRecDepth 100000 in
theorem t_X11_toleranceFor_38 {X : BX} {D : va_G} {cy : Nat → ClassId} {b : Nat} {r : Option Value} {μ' : MS} (hB : BB X D cy b yX11_toleranceFor cX11_toleranceFor 4 (some .int) rmX11_toleranceFor) {l3 : Int32} {μ : MS} {z : (Int32 × MS)} (hf : f_X11_toleranceFor_38 l3 μ = some z) (hk : (fun z : Int32 × MS => r = some (.int z.1) ∧ μ' = z.2) z) : WW X D cy b r μ' 4 0 0 38 [(3, .int l3)] [] μ := by
  unfold f_X11_toleranceFor_38 at hf
  refine r_iload_n hB 0 rfl (by decide +kernel : decode cX11_toleranceFor 38 = .ok (.iload_n 3, 1)) rfl ?_
  obtain rfl := Option.some.inj hf
  obtain ⟨rfl, rfl⟩ := hk
  exact r_iret hB (by decide +kernel : decode cX11_toleranceFor 39 = .ok (.ireturn, 1))
set_option maxHeartbeats 4000000 in
set_option maxRecDepth 100000 in
theorem t_X11_toleranceFor_2_b {X : BX} {D : va_G} {cy : Nat → ClassId} {b : Nat} {r : Option Value} {μ' : MS} (hB : BB X D cy b yX11_toleranceFor cX11_toleranceFor 4 (some .int) rmX11_toleranceFor) {l0 : Nat} {l1 : Int32} {l3 : Int32} {μ : MS} {z : ((Nat × Int32 × Int32 × MS) ⊕ (Int32 × MS))} (hf : f_X11_toleranceFor_2_b l0 l1 l3 μ = some z) (hk : (Sum.elim (fun s : Nat × Int32 × Int32 × MS => WW X D cy b r μ' 4 0 0 2 [(0, .ref (b + s.1)), (1, .int s.2.1), (3, .int s.2.2.1)] [] s.2.2.2) (fun z : Int32 × MS => r = some (.int z.1) ∧ μ' = z.2)) z) : WW X D cy b r μ' 4 0 0 2 [(0, .ref (b + l0)), (1, .int l1), (3, .int l3)] [] μ := by
  unfold f_X11_toleranceFor_2_b at hf
  refine r_iload_n hB 2 rfl (by decide +kernel : decode cX11_toleranceFor 2 = .ok (.iload_n 3, 1)) rfl ?_
  refine r_bipush hB (v := 40) (by decide +kernel : decode cX11_toleranceFor 3 = .ok (.bipush 40, 2)) (by decide +kernel) ?_
  refine r_icmp_gt hB (tgt := 46) (by decide +kernel : decode cX11_toleranceFor 5 = .ok (.if_icmp .gt 41, 3)) (by decide) hf (fun _ hf => ?_) (fun _ hf => ?_)
  · obtain ⟨_, hx0, rfl⟩ := xr_inv hf
    exact WW.sub [] rfl (t_X11_toleranceFor_46 hB hx0 hk)
  · refine r_aload_n hB 0 rfl (by decide +kernel : decode cX11_toleranceFor 8 = .ok (.aload_n 0, 1)) rfl ?_
    refine r_gR hB cf11 8 (by decide) (own := "PulseRemote") rfl (Or.inl k_403) (by decide +kernel) (by decide +kernel : decode cX11_toleranceFor 9 = .ok (.getfield 55, 3)) hf (fun x9 hf => ?_)
    refine r_aload_n hB 0 rfl (by decide +kernel : decode cX11_toleranceFor 12 = .ok (.aload_n 0, 1)) rfl ?_
    refine r_gR hB cf11 0 (by decide) (own := "PulseRemote") rfl (Or.inl k_395) (by decide +kernel) (by decide +kernel : decode cX11_toleranceFor 13 = .ok (.getfield 12, 3)) hf (fun x13 hf => ?_)
    refine r_gR hB cf7 0 (by decide) (own := "PulseRemote") rfl (Or.inr ⟨_, k_150⟩) (by decide +kernel) (by decide +kernel : decode cX11_toleranceFor 16 = .ok (.getfield 84, 3)) hf (fun x16 hf => ?_)
    refine r_aload_n hB 0 rfl (by decide +kernel : decode cX11_toleranceFor 19 = .ok (.aload_n 0, 1)) rfl ?_
    refine r_gR hB cf11 7 (by decide) (own := "PulseRemote") rfl (Or.inl k_402) (by decide +kernel) (by decide +kernel : decode cX11_toleranceFor 20 = .ok (.getfield 48, 3)) hf (fun x20 hf => ?_)
    refine r_iload_n hB 1 rfl (by decide +kernel : decode cX11_toleranceFor 23 = .ok (.iload_n 1, 1)) rfl ?_
    refine r_iload_n hB 2 rfl (by decide +kernel : decode cX11_toleranceFor 24 = .ok (.iload_n 3, 1)) rfl ?_
    refine r_cVv hB [.ref (b + x16), .ref (b + x20), .int l1, .int l3] [] cf2 (own := "PulseRemote") rfl cmX2_decode imX2_decode (Or.inl k_522) (by decide) rfl rfl rfl (Nat.le_of_ble_eq_true rfl) (by decide +kernel : decode cX11_toleranceFor 25 = .ok (.invokevirtual 295, 3)) (fun z hz => m_X2_decode _ _ _ _ hz) rfl hf (fun z25 hf => ?_)
    refine r_aload_n hB 0 rfl (by decide +kernel : decode cX11_toleranceFor 28 = .ok (.aload_n 0, 1)) rfl ?_
    refine r_gR hB cf11 8 (by decide) (own := "PulseRemote") rfl (Or.inl k_403) (by decide +kernel) (by decide +kernel : decode cX11_toleranceFor 29 = .ok (.getfield 55, 3)) hf (fun x29 hf => ?_)
    refine r_cVi hB [] [] cf2 (own := "PulseRemote") rfl cmX2_isDecoded imX2_isDecoded (Or.inl k_576) (by decide) rfl rfl rfl (Nat.le_of_ble_eq_true rfl) (by decide +kernel : decode cX11_toleranceFor 32 = .ok (.invokevirtual 299, 3)) (fun z hz => m_X2_isDecoded _ _ _ _ hz) rfl hf (fun z32 hf => ?_)
    refine r_if_eq hB (tgt := 40) (by decide +kernel : decode cX11_toleranceFor 35 = .ok (.ifCond .eq 5, 3)) (by decide) hf (fun _ hf => ?_) (fun _ hf => ?_)
    · refine r_iincB hB 2 rfl (by decide +kernel : decode cX11_toleranceFor 40 = .ok (.iinc 3 1, 3)) (w := 1) (by decide +kernel) (by decide) hf (fun v40 hf => ?_)
      refine ww_lv (lv' := [(3, .int v40), (0, .ref (b + l0)), (1, .int l1)]) rfl ?_
      refine r_goto hB (tgt := 2) (by decide +kernel : decode cX11_toleranceFor 43 = .ok (.goto (-41), 3)) (by decide) ?_
      obtain rfl := Option.some.inj hf
      exact WW.sub [1, 2, 0] rfl hk
    · obtain ⟨_, hx0, rfl⟩ := xr_inv hf
      exact WW.sub [2] rfl (t_X11_toleranceFor_38 hB hx0 hk)
set_option maxHeartbeats 4000000 in
set_option maxRecDepth 100000 in
theorem t_X11_toleranceFor_2 {X : BX} {D : va_G} {cy : Nat → ClassId} {b : Nat} {r : Option Value} {μ' : MS} (hB : BB X D cy b yX11_toleranceFor cX11_toleranceFor 4 (some .int) rmX11_toleranceFor) {l0 : Nat} {l1 : Int32} {l3 : Int32} {μ : MS} {z : (Int32 × MS)} (hf : f_X11_toleranceFor_2 l0 l1 l3 μ = some z) (hk : (fun z : Int32 × MS => r = some (.int z.1) ∧ μ' = z.2) z) : WW X D cy b r μ' 4 0 0 2 [(0, .ref (b + l0)), (1, .int l1), (3, .int l3)] [] μ :=
  lp_ind (P := fun s : Nat × Int32 × Int32 × MS => WW X D cy b r μ' 4 0 0 2 [(0, .ref (b + s.1)), (1, .int s.2.1), (3, .int s.2.2.1)] [] s.2.2.2) (Q := (fun z : Int32 × MS => r = some (.int z.1) ∧ μ' = z.2)) (fun s z hz hk => t_X11_toleranceFor_2_b hB hz hk) (l0, l1, l3, μ) z hf hk
set_option maxHeartbeats 4000000 in
set_option maxRecDepth 100000 in
theorem t_X11_toleranceFor_0 {X : BX} {D : va_G} {cy : Nat → ClassId} {b : Nat} {r : Option Value} {μ' : MS} (hB : BB X D cy b yX11_toleranceFor cX11_toleranceFor 4 (some .int) rmX11_toleranceFor) {l0 : Nat} {l1 : Int32} {l2 : Int32} {μ : MS} {z : (Int32 × MS)} (hf : f_X11_toleranceFor l0 l1 l2 μ = some z) (hk : (fun z : Int32 × MS => r = some (.int z.1) ∧ μ' = z.2) z) : WW X D cy b r μ' 4 0 0 0 [(0, .ref (b + l0)), (1, .int l1), (2, .int l2)] [] μ := by
  unfold f_X11_toleranceFor at hf
  refine r_iload_n hB 2 rfl (by decide +kernel : decode cX11_toleranceFor 0 = .ok (.iload_n 2, 1)) rfl ?_
  refine r_istore_n hB (by decide +kernel : decode cX11_toleranceFor 1 = .ok (.istore_n 3, 1)) rfl (by decide) rfl ?_
  refine ww_lv (lv' := [(3, .int l2), (0, .ref (b + l0)), (1, .int l1), (2, .int l2)]) rfl ?_
  exact WW.sub [1, 2, 0] rfl (t_X11_toleranceFor_2 hB hf hk)
theorem m_X11_toleranceFor (l : Launch) (D : va_G) (cy : Nat → ClassId) (b : Nat) {l0 : Nat} {l1 : Int32} {l2 : Int32} {μ : MS} {z : Int32 × MS} (hf : f_X11_toleranceFor l0 l1 l2 μ = some z) : Met l yX11_toleranceFor (.code yX11_toleranceFor cX11_toleranceFor 4 (some .int) :: GW) rmX11_toleranceFor (Pw D cy b [.ref (b + l0), .int l1, .int l2] μ) (Qw D cy b (some (.int z.1)) (z.2)) rmX11_toleranceFor.cells rmX11_toleranceFor.slots (fun q => b ≤ q) :=
  met_of (by decide) (Nat.le_of_ble_eq_true rfl) (fun X hB _ => (t_X11_toleranceFor_0 hB hf ⟨rfl, rfl⟩))
-- PulseRemote.neededTolerance(I)I
set_option maxHeartbeats 4000000 in
set_option maxRecDepth 100000 in
theorem t_X11_neededTolerance_68 {X : BX} {D : va_G} {cy : Nat → ClassId} {b : Nat} {r : Option Value} {μ' : MS} (hB : BB X D cy b yX11_neededTolerance cX11_neededTolerance 4 (some .int) rmX11_neededTolerance) {l2 : Int32} {μ : MS} {z : (Int32 × MS)} (hf : f_X11_neededTolerance_68 l2 μ = some z) (hk : (fun z : Int32 × MS => r = some (.int z.1) ∧ μ' = z.2) z) : WW X D cy b r μ' 4 0 0 68 [(2, .int l2)] [] μ := by
  unfold f_X11_neededTolerance_68 at hf
  refine r_iload_n hB 0 rfl (by decide +kernel : decode cX11_neededTolerance 68 = .ok (.iload_n 2, 1)) rfl ?_
  obtain rfl := Option.some.inj hf
  obtain ⟨rfl, rfl⟩ := hk
  exact r_iret hB (by decide +kernel : decode cX11_neededTolerance 69 = .ok (.ireturn, 1))
set_option maxHeartbeats 4000000 in
set_option maxRecDepth 100000 in
theorem t_X11_neededTolerance_59 {X : BX} {D : va_G} {cy : Nat → ClassId} {b : Nat} {r : Option Value} {μ' : MS} (hB : BB X D cy b yX11_neededTolerance cX11_neededTolerance 4 (some .int) rmX11_neededTolerance)  {μ : MS} {z : (Int32 × MS)} (hf : f_X11_neededTolerance_59  μ = some z) (hk : (fun z : Int32 × MS => r = some (.int z.1) ∧ μ' = z.2) z) : WW X D cy b r μ' 4 0 0 59 [] [] μ := by
  unfold f_X11_neededTolerance_59 at hf
  refine r_bipush hB (v := (-9)) (by decide +kernel : decode cX11_neededTolerance 59 = .ok (.bipush (-9), 2)) (by decide +kernel) ?_
  obtain rfl := Option.some.inj hf
  obtain ⟨rfl, rfl⟩ := hk
  exact r_iret hB (by decide +kernel : decode cX11_neededTolerance 61 = .ok (.ireturn, 1))
set_option maxHeartbeats 4000000 in
set_option maxRecDepth 100000 in
theorem t_X11_neededTolerance_35_b {X : BX} {D : va_G} {cy : Nat → ClassId} {b : Nat} {r : Option Value} {μ' : MS} (hB : BB X D cy b yX11_neededTolerance cX11_neededTolerance 4 (some .int) rmX11_neededTolerance) {l0 : Nat} {l2 : Int32} {l3 : Int32} {μ : MS} {z : ((Nat × Int32 × Int32 × MS) ⊕ (Int32 × MS))} (hf : f_X11_neededTolerance_35_b l0 l2 l3 μ = some z) (hk : (Sum.elim (fun s : Nat × Int32 × Int32 × MS => WW X D cy b r μ' 4 0 0 35 [(0, .ref (b + s.1)), (2, .int s.2.1), (3, .int s.2.2.1)] [] s.2.2.2) (fun z : Int32 × MS => r = some (.int z.1) ∧ μ' = z.2)) z) : WW X D cy b r μ' 4 0 0 35 [(0, .ref (b + l0)), (2, .int l2), (3, .int l3)] [] μ := by
  unfold f_X11_neededTolerance_35_b at hf
  refine r_iload_n hB 2 rfl (by decide +kernel : decode cX11_neededTolerance 35 = .ok (.iload_n 3, 1)) rfl ?_
  refine r_aload_n hB 0 rfl (by decide +kernel : decode cX11_neededTolerance 36 = .ok (.aload_n 0, 1)) rfl ?_
  refine r_gR hB cf11 7 (by decide) (own := "PulseRemote") rfl (Or.inl k_402) (by decide +kernel) (by decide +kernel : decode cX11_neededTolerance 37 = .ok (.getfield 48, 3)) hf (fun x37 hf => ?_)
  refine r_gI hB cf3 2 (by decide) (own := "PulseRemote") rfl (Or.inr ⟨_, k_210⟩) (by decide +kernel) (by decide +kernel : decode cX11_neededTolerance 40 = .ok (.getfield 286, 3)) hf (fun x40 hf => ?_)
  refine r_icmp_ge hB (tgt := 68) (by decide +kernel : decode cX11_neededTolerance 43 = .ok (.if_icmp .ge 25, 3)) (by decide) hf (fun _ hf => ?_) (fun _ hf => ?_)
  · obtain ⟨_, hx0, rfl⟩ := xr_inv hf
    exact WW.sub [1] rfl (t_X11_neededTolerance_68 hB hx0 hk)
  · refine r_aload_n hB 0 rfl (by decide +kernel : decode cX11_neededTolerance 46 = .ok (.aload_n 0, 1)) rfl ?_
    refine r_iload_n hB 2 rfl (by decide +kernel : decode cX11_neededTolerance 47 = .ok (.iload_n 3, 1)) rfl ?_
    refine r_iload_n hB 1 rfl (by decide +kernel : decode cX11_neededTolerance 48 = .ok (.iload_n 2, 1)) rfl ?_
    refine r_cVi hB [.int l3, .int l2] [] cf11 (own := "PulseRemote") rfl cmX11_toleranceFor imX11_toleranceFor (Or.inl k_690) (by decide) rfl rfl rfl (Nat.le_of_ble_eq_true rfl) (by decide +kernel : decode cX11_neededTolerance 49 = .ok (.invokevirtual 338, 3)) (fun z hz => m_X11_toleranceFor _ _ _ _ hz) rfl hf (fun z49 hf => ?_)
    refine r_istore_n hB (by decide +kernel : decode cX11_neededTolerance 52 = .ok (.istore_n 2, 1)) rfl (by decide) rfl ?_
    refine ww_lv (lv' := [(2, .int z49.1), (0, .ref (b + l0)), (3, .int l3)]) rfl ?_
    refine r_iload_n hB 0 rfl (by decide +kernel : decode cX11_neededTolerance 53 = .ok (.iload_n 2, 1)) rfl ?_
    refine r_bipush hB (v := (-9)) (by decide +kernel : decode cX11_neededTolerance 54 = .ok (.bipush (-9), 2)) (by decide +kernel) ?_
    refine r_icmp_ne hB (tgt := 62) (by decide +kernel : decode cX11_neededTolerance 56 = .ok (.if_icmp .ne 6, 3)) (by decide) hf (fun _ hf => ?_) (fun _ hf => ?_)
    · obtain ⟨_, hx0, rfl⟩ := xr_inv hf
      exact WW.sub [] rfl (t_X11_neededTolerance_59 hB hx0 hk)
    · refine r_iincB hB 2 rfl (by decide +kernel : decode cX11_neededTolerance 62 = .ok (.iinc 3 1, 3)) (w := 1) (by decide +kernel) (by decide) hf (fun v62 hf => ?_)
      refine ww_lv (lv' := [(3, .int v62), (2, .int z49.1), (0, .ref (b + l0))]) rfl ?_
      refine r_goto hB (tgt := 35) (by decide +kernel : decode cX11_neededTolerance 65 = .ok (.goto (-30), 3)) (by decide) ?_
      obtain rfl := Option.some.inj hf
      exact WW.sub [2, 1, 0] rfl hk
set_option maxHeartbeats 4000000 in
set_option maxRecDepth 100000 in
theorem t_X11_neededTolerance_35 {X : BX} {D : va_G} {cy : Nat → ClassId} {b : Nat} {r : Option Value} {μ' : MS} (hB : BB X D cy b yX11_neededTolerance cX11_neededTolerance 4 (some .int) rmX11_neededTolerance) {l0 : Nat} {l2 : Int32} {l3 : Int32} {μ : MS} {z : (Int32 × MS)} (hf : f_X11_neededTolerance_35 l0 l2 l3 μ = some z) (hk : (fun z : Int32 × MS => r = some (.int z.1) ∧ μ' = z.2) z) : WW X D cy b r μ' 4 0 0 35 [(0, .ref (b + l0)), (2, .int l2), (3, .int l3)] [] μ :=
  lp_ind (P := fun s : Nat × Int32 × Int32 × MS => WW X D cy b r μ' 4 0 0 35 [(0, .ref (b + s.1)), (2, .int s.2.1), (3, .int s.2.2.1)] [] s.2.2.2) (Q := (fun z : Int32 × MS => r = some (.int z.1) ∧ μ' = z.2)) (fun s z hz hk => t_X11_neededTolerance_35_b hB hz hk) (l0, l2, l3, μ) z hf hk
set_option maxHeartbeats 4000000 in
set_option maxRecDepth 100000 in
theorem t_X11_neededTolerance_0 {X : BX} {D : va_G} {cy : Nat → ClassId} {b : Nat} {r : Option Value} {μ' : MS} (hB : BB X D cy b yX11_neededTolerance cX11_neededTolerance 4 (some .int) rmX11_neededTolerance) {l0 : Nat} {l1 : Int32} {μ : MS} {z : (Int32 × MS)} (hf : f_X11_neededTolerance l0 l1 μ = some z) (hk : (fun z : Int32 × MS => r = some (.int z.1) ∧ μ' = z.2) z) : WW X D cy b r μ' 4 0 0 0 [(0, .ref (b + l0)), (1, .int l1)] [] μ := by
  unfold f_X11_neededTolerance at hf
  refine r_iload_n hB 1 rfl (by decide +kernel : decode cX11_neededTolerance 0 = .ok (.iload_n 1, 1)) rfl ?_
  refine r_cSi hB [.int l1] [] (own := "PulseRemote") rfl cmX11_isSlot smX11_isSlot (Or.inl ⟨rfl, k_485⟩) (by decide) rfl rfl rfl (Nat.le_of_ble_eq_true rfl) (by decide +kernel : decode cX11_neededTolerance 1 = .ok (.invokestatic 156, 3)) (fun z hz => m_X11_isSlot _ _ _ _ hz) rfl hf (fun z1 hf => ?_)
  refine r_if_ne hB (tgt := 9) (by decide +kernel : decode cX11_neededTolerance 4 = .ok (.ifCond .ne 5, 3)) (by decide) hf (fun _ hf => ?_) (fun _ hf => ?_)
  · refine r_iconst hB (v := (-1)) (by decide +kernel : decode cX11_neededTolerance 7 = .ok (.iconst (-1), 1)) (by decide +kernel) ?_
    obtain rfl := Option.some.inj hf
    obtain ⟨rfl, rfl⟩ := hk
    exact r_iret hB (by decide +kernel : decode cX11_neededTolerance 8 = .ok (.ireturn, 1))
  · refine r_aload_n hB 0 rfl (by decide +kernel : decode cX11_neededTolerance 9 = .ok (.aload_n 0, 1)) rfl ?_
    refine r_gR hB cf11 7 (by decide) (own := "PulseRemote") rfl (Or.inl k_402) (by decide +kernel) (by decide +kernel : decode cX11_neededTolerance 10 = .ok (.getfield 48, 3)) hf (fun x10 hf => ?_)
    refine r_aload_n hB 0 rfl (by decide +kernel : decode cX11_neededTolerance 13 = .ok (.aload_n 0, 1)) rfl ?_
    refine r_gR hB cf11 0 (by decide) (own := "PulseRemote") rfl (Or.inl k_395) (by decide +kernel) (by decide +kernel : decode cX11_neededTolerance 14 = .ok (.getfield 12, 3)) hf (fun x14 hf => ?_)
    refine r_iload_n hB 1 rfl (by decide +kernel : decode cX11_neededTolerance 17 = .ok (.iload_n 1, 1)) rfl ?_
    refine r_cVr hB [.int l1] [.ref (b + x10)] cf7 (own := "PulseRemote") rfl cmX7_trainAt imX7_trainAt (Or.inl k_488) (by decide) rfl rfl rfl (Nat.le_of_ble_eq_true rfl) (by decide +kernel : decode cX11_neededTolerance 18 = .ok (.invokevirtual 159, 3)) (fun z hz => m_X7_trainAt _ _ _ _ hz) rfl hf (fun z18 hf => ?_)
    refine r_aload_n hB 0 rfl (by decide +kernel : decode cX11_neededTolerance 21 = .ok (.aload_n 0, 1)) rfl ?_
    refine r_gR hB cf11 0 (by decide) (own := "PulseRemote") rfl (Or.inl k_395) (by decide +kernel) (by decide +kernel : decode cX11_neededTolerance 22 = .ok (.getfield 12, 3)) hf (fun x22 hf => ?_)
    refine r_gI hB cf7 2 (by decide) (own := "PulseRemote") rfl (Or.inr ⟨_, k_154⟩) (by decide +kernel) (by decide +kernel : decode cX11_neededTolerance 25 = .ok (.getfield 163, 3)) hf (fun x25 hf => ?_)
    refine r_cVv hB [.ref (b + z18.1), .int x25] [] cf3 (own := "PulseRemote") rfl cmX3_split imX3_split (Or.inl k_493) (by decide) rfl rfl rfl (Nat.le_of_ble_eq_true rfl) (by decide +kernel : decode cX11_neededTolerance 28 = .ok (.invokevirtual 166, 3)) (fun z hz => m_X3_split _ _ _ _ hz) rfl hf (fun z28 hf => ?_)
    refine r_iconst hB (v := 0) (by decide +kernel : decode cX11_neededTolerance 31 = .ok (.iconst 0, 1)) (by decide +kernel) ?_
    refine r_istore_n hB (by decide +kernel : decode cX11_neededTolerance 32 = .ok (.istore_n 2, 1)) rfl (by decide) rfl ?_
    refine ww_lv (lv' := [(2, .int 0), (0, .ref (b + l0)), (1, .int l1)]) rfl ?_
    refine r_iconst hB (v := 0) (by decide +kernel : decode cX11_neededTolerance 33 = .ok (.iconst 0, 1)) (by decide +kernel) ?_
    refine r_istore_n hB (by decide +kernel : decode cX11_neededTolerance 34 = .ok (.istore_n 3, 1)) rfl (by decide) rfl ?_
    refine ww_lv (lv' := [(3, .int 0), (2, .int 0), (0, .ref (b + l0)), (1, .int l1)]) rfl ?_
    exact WW.sub [2, 1, 0] rfl (t_X11_neededTolerance_35 hB hf hk)
theorem m_X11_neededTolerance (l : Launch) (D : va_G) (cy : Nat → ClassId) (b : Nat) {l0 : Nat} {l1 : Int32} {μ : MS} {z : Int32 × MS} (hf : f_X11_neededTolerance l0 l1 μ = some z) : Met l yX11_neededTolerance (.code yX11_neededTolerance cX11_neededTolerance 4 (some .int) :: GW) rmX11_neededTolerance (Pw D cy b [.ref (b + l0), .int l1] μ) (Qw D cy b (some (.int z.1)) (z.2)) rmX11_neededTolerance.cells rmX11_neededTolerance.slots (fun q => b ≤ q) :=
  met_of (by decide) (Nat.le_of_ble_eq_true rfl) (fun X hB _ => (t_X11_neededTolerance_0 hB hf ⟨rfl, rfl⟩))
-- PulseRemote.undo()I
set_option maxHeartbeats 4000000 in
set_option maxRecDepth 100000 in
theorem t_X11_undo_0 {X : BX} {D : va_G} {cy : Nat → ClassId} {b : Nat} {r : Option Value} {μ' : MS} (hB : BB X D cy b yX11_undo cX11_undo 2 (some .int) rmX11_undo) {l0 : Nat} {μ : MS} {z : (Int32 × MS)} (hf : f_X11_undo l0 μ = some z) (hk : (fun z : Int32 × MS => r = some (.int z.1) ∧ μ' = z.2) z) : WW X D cy b r μ' 2 0 0 0 [(0, .ref (b + l0))] [] μ := by
  unfold f_X11_undo at hf
  refine r_aload_n hB 0 rfl (by decide +kernel : decode cX11_undo 0 = .ok (.aload_n 0, 1)) rfl ?_
  refine r_gI hB cf11 2 (by decide) (own := "PulseRemote") rfl (Or.inl k_397) (by decide +kernel) (by decide +kernel : decode cX11_undo 1 = .ok (.getfield 153, 3)) hf (fun x1 hf => ?_)
  refine r_if_gt hB (tgt := 10) (by decide +kernel : decode cX11_undo 4 = .ok (.ifCond .gt 6, 3)) (by decide) hf (fun _ hf => ?_) (fun _ hf => ?_)
  · refine r_aload_n hB 0 rfl (by decide +kernel : decode cX11_undo 10 = .ok (.aload_n 0, 1)) rfl ?_
    refine r_dup hB (by decide +kernel : decode cX11_undo 11 = .ok (.dup, 1)) rfl ?_
    refine r_gI hB cf11 2 (by decide) (own := "PulseRemote") rfl (Or.inl k_397) (by decide +kernel) (by decide +kernel : decode cX11_undo 12 = .ok (.getfield 153, 3)) hf (fun x12 hf => ?_)
    refine r_iconst hB (v := 1) (by decide +kernel : decode cX11_undo 15 = .ok (.iconst 1, 1)) (by decide +kernel) ?_
    refine r_isub hB (by decide +kernel : decode cX11_undo 16 = .ok (.isub, 1)) ?_
    refine r_pI hB cf11 2 (by decide) (own := "PulseRemote") rfl (Or.inl k_397) (Or.inl rfl) rfl (by decide +kernel : decode cX11_undo 17 = .ok (.putfield 153, 3)) hf (fun m17 hf => ?_)
    refine r_aload_n hB 0 rfl (by decide +kernel : decode cX11_undo 20 = .ok (.aload_n 0, 1)) rfl ?_
    refine r_gR hB cf11 0 (by decide) (own := "PulseRemote") rfl (Or.inl k_395) (by decide +kernel) (by decide +kernel : decode cX11_undo 21 = .ok (.getfield 12, 3)) hf (fun x21 hf => ?_)
    refine r_astore_n hB (by decide +kernel : decode cX11_undo 24 = .ok (.astore_n 1, 1)) rfl (by decide) rfl ?_
    refine ww_lv (lv' := [(1, .ref (b + x21)), (0, .ref (b + l0))]) rfl ?_
    refine r_aload_n hB 1 rfl (by decide +kernel : decode cX11_undo 25 = .ok (.aload_n 0, 1)) rfl ?_
    refine r_aload_n hB 1 rfl (by decide +kernel : decode cX11_undo 26 = .ok (.aload_n 0, 1)) rfl ?_
    refine r_gR hB cf11 1 (by decide) (own := "PulseRemote") rfl (Or.inl k_396) (by decide +kernel) (by decide +kernel : decode cX11_undo 27 = .ok (.getfield 16, 3)) hf (fun x27 hf => ?_)
    refine r_aload_n hB 1 rfl (by decide +kernel : decode cX11_undo 30 = .ok (.aload_n 0, 1)) rfl ?_
    refine r_gI hB cf11 2 (by decide) (own := "PulseRemote") rfl (Or.inl k_397) (by decide +kernel) (by decide +kernel : decode cX11_undo 31 = .ok (.getfield 153, 3)) hf (fun x31 hf => ?_)
    refine r_aald hB (t := 19) (C := RX7) (Or.inr (Or.inl ⟨rfl, rfl⟩)) (by decide +kernel : decode cX11_undo 34 = .ok (.aaload, 1)) hf (fun x34 hf => ?_)
    refine r_pR hB cf11 0 (by decide) (own := "PulseRemote") rfl (Or.inl k_395) (Or.inl rfl) (by decide +kernel) (by decide +kernel : decode cX11_undo 35 = .ok (.putfield 12, 3)) hf (fun m35 hf => ?_)
    refine r_aload_n hB 1 rfl (by decide +kernel : decode cX11_undo 38 = .ok (.aload_n 0, 1)) rfl ?_
    refine r_gR hB cf11 1 (by decide) (own := "PulseRemote") rfl (Or.inl k_396) (by decide +kernel) (by decide +kernel : decode cX11_undo 39 = .ok (.getfield 16, 3)) hf (fun x39 hf => ?_)
    refine r_aload_n hB 1 rfl (by decide +kernel : decode cX11_undo 42 = .ok (.aload_n 0, 1)) rfl ?_
    refine r_gI hB cf11 2 (by decide) (own := "PulseRemote") rfl (Or.inl k_397) (by decide +kernel) (by decide +kernel : decode cX11_undo 43 = .ok (.getfield 153, 3)) hf (fun x43 hf => ?_)
    refine r_aload_n hB 0 rfl (by decide +kernel : decode cX11_undo 46 = .ok (.aload_n 1, 1)) rfl ?_
    refine r_aast hB (t := 19) (C := RX7) cf7 (Or.inr (Or.inl ⟨rfl, rfl⟩)) (by decide +kernel : decode cX11_undo 47 = .ok (.aastore, 1)) hf (fun m47 hf => ?_)
    refine r_aload_n hB 1 rfl (by decide +kernel : decode cX11_undo 48 = .ok (.aload_n 0, 1)) rfl ?_
    refine r_gI hB cf11 2 (by decide) (own := "PulseRemote") rfl (Or.inl k_397) (by decide +kernel) (by decide +kernel : decode cX11_undo 49 = .ok (.getfield 153, 3)) hf (fun x49 hf => ?_)
    obtain rfl := Option.some.inj hf
    obtain ⟨rfl, rfl⟩ := hk
    exact r_iret hB (by decide +kernel : decode cX11_undo 52 = .ok (.ireturn, 1))
  · refine r_bipush hB (v := (-2)) (by decide +kernel : decode cX11_undo 7 = .ok (.bipush (-2), 2)) (by decide +kernel) ?_
    obtain rfl := Option.some.inj hf
    obtain ⟨rfl, rfl⟩ := hk
    exact r_iret hB (by decide +kernel : decode cX11_undo 9 = .ok (.ireturn, 1))
theorem m_X11_undo (l : Launch) (D : va_G) (cy : Nat → ClassId) (b : Nat) {l0 : Nat} {μ : MS} {z : Int32 × MS} (hf : f_X11_undo l0 μ = some z) : Met l yX11_undo (.code yX11_undo cX11_undo 2 (some .int) :: GW) rmX11_undo (Pw D cy b [.ref (b + l0)] μ) (Qw D cy b (some (.int z.1)) (z.2)) rmX11_undo.cells rmX11_undo.slots (fun q => b ≤ q) :=
  met_of (by decide) (Nat.le_of_ble_eq_true rfl) (fun X hB _ => (t_X11_undo_0 hB hf ⟨rfl, rfl⟩))
-- PulseRemoteLaw.cell([II)I
-- BYHAND L_cell
-- PulseRemoteLaw.low(II)I
set_option maxHeartbeats 4000000 in
set_option maxRecDepth 100000 in
theorem t_L_low_0 {X : BX} {D : va_G} {cy : Nat → ClassId} {b : Nat} {r : Option Value} {μ' : MS} (hB : BB X D cy b yL_low cL_low 2 (some .int) rmL_low) {l0 : Int32} {l1 : Int32} {μ : MS} {z : (Int32 × MS)} (hf : f_L_low l0 l1 μ = some z) (hk : (fun z : Int32 × MS => r = some (.int z.1) ∧ μ' = z.2) z) : WW X D cy b r μ' 2 0 0 0 [(0, .int l0), (1, .int l1)] [] μ := by
  unfold f_L_low at hf
  refine r_iload_n hB 0 rfl (by decide +kernel : decode cL_low 0 = .ok (.iload_n 0, 1)) rfl ?_
  refine r_ldc hB (v := 2147483647) (own := "PulseRemoteLaw") rfl k_704 (by decide +kernel : decode cL_low 1 = .ok (.ldc 7, 2)) ?_
  refine r_iand hB (by decide +kernel : decode cL_low 3 = .ok (.iand, 1)) ?_
  refine r_iload_n hB 1 rfl (by decide +kernel : decode cL_low 4 = .ok (.iload_n 1, 1)) rfl ?_
  refine r_irem hB (by decide +kernel : decode cL_low 5 = .ok (.irem, 1)) hf (fun v5 hf => ?_)
  obtain rfl := Option.some.inj hf
  obtain ⟨rfl, rfl⟩ := hk
  exact r_iret hB (by decide +kernel : decode cL_low 6 = .ok (.ireturn, 1))
theorem m_L_low (l : Launch) (D : va_G) (cy : Nat → ClassId) (b : Nat) {l0 : Int32} {l1 : Int32} {μ : MS} {z : Int32 × MS} (hf : f_L_low l0 l1 μ = some z) : Met l yL_low (.code yL_low cL_low 2 (some .int) :: GW) rmL_low (Pw D cy b [.int l0, .int l1] μ) (Qw D cy b (some (.int z.1)) (z.2)) rmL_low.cells rmL_low.slots (fun q => b ≤ q) :=
  met_of (by decide) (Nat.le_of_ble_eq_true rfl) (fun X hB _ => (t_L_low_0 hB hf ⟨rfl, rfl⟩))
-- PulseRemoteLaw.tale(LPulseRemote;)J
set_option maxHeartbeats 4000000 in
set_option maxRecDepth 100000 in
theorem t_L_tale_219 {X : BX} {D : va_G} {cy : Nat → ClassId} {b : Nat} {r : Option Value} {μ' : MS} (hB : BB X D cy b yL_tale cL_tale 5 (some .long) rmL_tale) {l1 : Int64} {μ : MS} {z : (Int64 × MS)} (hf : f_L_tale_219 l1 μ = some z) (hk : (fun z : Int64 × MS => r = some (.long z.1) ∧ μ' = z.2) z) : WW X D cy b r μ' 5 0 0 219 [(1, .long l1)] [] μ := by
  unfold f_L_tale_219 at hf
  refine r_lload_n hB 0 rfl (by decide +kernel : decode cL_tale 219 = .ok (.lload_n 1, 1)) rfl ?_
  obtain rfl := Option.some.inj hf
  obtain ⟨rfl, rfl⟩ := hk
  exact r_lret hB (by decide +kernel : decode cL_tale 220 = .ok (.lreturn, 1))
set_option maxHeartbeats 4000000 in
set_option maxRecDepth 100000 in
theorem t_L_tale_178_b {X : BX} {D : va_G} {cy : Nat → ClassId} {b : Nat} {r : Option Value} {μ' : MS} (hB : BB X D cy b yL_tale cL_tale 5 (some .long) rmL_tale) {l0 : Nat} {l1 : Int64} {l3 : Int32} {μ : MS} {z : ((Nat × Int64 × Int32 × MS) ⊕ (Int64 × MS))} (hf : f_L_tale_178_b l0 l1 l3 μ = some z) (hk : (Sum.elim (fun s : Nat × Int64 × Int32 × MS => WW X D cy b r μ' 5 0 0 178 [(0, .ref (b + s.1)), (1, .long s.2.1), (3, .int s.2.2.1)] [] s.2.2.2) (fun z : Int64 × MS => r = some (.long z.1) ∧ μ' = z.2)) z) : WW X D cy b r μ' 5 0 0 178 [(0, .ref (b + l0)), (1, .long l1), (3, .int l3)] [] μ := by
  unfold f_L_tale_178_b at hf
  refine r_iload_n hB 2 rfl (by decide +kernel : decode cL_tale 178 = .ok (.iload_n 3, 1)) rfl ?_
  refine r_aload_n hB 0 rfl (by decide +kernel : decode cL_tale 179 = .ok (.aload_n 0, 1)) rfl ?_
  refine r_iconst hB (v := 1) (by decide +kernel : decode cL_tale 180 = .ok (.iconst 1, 1)) (by decide +kernel) ?_
  refine r_cVi hB [.int 1] [.int l3] cf11 (own := "PulseRemoteLaw") rfl cmX11_count imX11_count (Or.inl k_432) (by decide) rfl rfl rfl (Nat.le_of_ble_eq_true rfl) (by decide +kernel : decode cL_tale 181 = .ok (.invokevirtual 10, 3)) (fun z hz => m_X11_count _ _ _ _ hz) rfl hf (fun z181 hf => ?_)
  refine r_icmp_ge hB (tgt := 219) (by decide +kernel : decode cL_tale 184 = .ok (.if_icmp .ge 35, 3)) (by decide) hf (fun _ hf => ?_) (fun _ hf => ?_)
  · obtain ⟨_, hx0, rfl⟩ := xr_inv hf
    exact WW.sub [1] rfl (t_L_tale_219 hB hx0 hk)
  · refine r_lload_n hB 1 rfl (by decide +kernel : decode cL_tale 187 = .ok (.lload_n 1, 1)) rfl ?_
    refine r_ldc2 hB (v := 47) (own := "PulseRemoteLaw") rfl k_733 (by decide +kernel : decode cL_tale 188 = .ok (.ldc2_w 54, 3)) ?_
    refine r_lmul hB (by decide +kernel : decode cL_tale 191 = .ok (.lmul, 1)) ?_
    refine r_aload_n hB 0 rfl (by decide +kernel : decode cL_tale 192 = .ok (.aload_n 0, 1)) rfl ?_
    refine r_iload_n hB 2 rfl (by decide +kernel : decode cL_tale 193 = .ok (.iload_n 3, 1)) rfl ?_
    refine r_iconst hB (v := 0) (by decide +kernel : decode cL_tale 194 = .ok (.iconst 0, 1)) (by decide +kernel) ?_
    refine r_cVi hB [.int l3, .int 0] [.long (l1 * 47)] cf11 (own := "PulseRemoteLaw") rfl cmX11_button imX11_button (Or.inl k_734) (by decide) rfl rfl rfl (Nat.le_of_ble_eq_true rfl) (by decide +kernel : decode cL_tale 195 = .ok (.invokevirtual 56, 3)) (fun z hz => m_X11_button _ _ _ _ hz) rfl hf (fun z195 hf => ?_)
    refine r_i2l hB (by decide +kernel : decode cL_tale 198 = .ok (.i2l, 1)) ?_
    refine r_ladd hB (by decide +kernel : decode cL_tale 199 = .ok (.ladd, 1)) ?_
    refine r_ldc2 hB (v := 17) (own := "PulseRemoteLaw") rfl k_741 (by decide +kernel : decode cL_tale 200 = .ok (.ldc2_w 59, 3)) ?_
    refine r_aload_n hB 0 rfl (by decide +kernel : decode cL_tale 203 = .ok (.aload_n 0, 1)) rfl ?_
    refine r_iload_n hB 2 rfl (by decide +kernel : decode cL_tale 204 = .ok (.iload_n 3, 1)) rfl ?_
    refine r_iconst hB (v := 1) (by decide +kernel : decode cL_tale 205 = .ok (.iconst 1, 1)) (by decide +kernel) ?_
    refine r_cVi hB [.int l3, .int 1] [.long 17, .long ((l1 * 47) + z195.1.toInt64)] cf11 (own := "PulseRemoteLaw") rfl cmX11_button imX11_button (Or.inl k_734) (by decide) rfl rfl rfl (Nat.le_of_ble_eq_true rfl) (by decide +kernel : decode cL_tale 206 = .ok (.invokevirtual 56, 3)) (fun z hz => m_X11_button _ _ _ _ hz) rfl hf (fun z206 hf => ?_)
    refine r_i2l hB (by decide +kernel : decode cL_tale 209 = .ok (.i2l, 1)) ?_
    refine r_lmul hB (by decide +kernel : decode cL_tale 210 = .ok (.lmul, 1)) ?_
    refine r_ladd hB (by decide +kernel : decode cL_tale 211 = .ok (.ladd, 1)) ?_
    refine r_nameL hf (fun v212 hf => ?_)
    refine r_lstore_n hB (by decide +kernel : decode cL_tale 212 = .ok (.lstore_n 1, 1)) rfl (by decide) rfl ?_
    refine ww_lv (lv' := [(1, .long v212), (0, .ref (b + l0)), (3, .int l3)]) rfl ?_
    refine r_iincB hB 2 rfl (by decide +kernel : decode cL_tale 213 = .ok (.iinc 3 1, 3)) (w := 1) (by decide +kernel) (by decide) hf (fun v213 hf => ?_)
    refine ww_lv (lv' := [(3, .int v213), (1, .long v212), (0, .ref (b + l0))]) rfl ?_
    refine r_goto hB (tgt := 178) (by decide +kernel : decode cL_tale 216 = .ok (.goto (-38), 3)) (by decide) ?_
    obtain rfl := Option.some.inj hf
    exact WW.sub [2, 1, 0] rfl hk
set_option maxHeartbeats 4000000 in
set_option maxRecDepth 100000 in
theorem t_L_tale_178 {X : BX} {D : va_G} {cy : Nat → ClassId} {b : Nat} {r : Option Value} {μ' : MS} (hB : BB X D cy b yL_tale cL_tale 5 (some .long) rmL_tale) {l0 : Nat} {l1 : Int64} {l3 : Int32} {μ : MS} {z : (Int64 × MS)} (hf : f_L_tale_178 l0 l1 l3 μ = some z) (hk : (fun z : Int64 × MS => r = some (.long z.1) ∧ μ' = z.2) z) : WW X D cy b r μ' 5 0 0 178 [(0, .ref (b + l0)), (1, .long l1), (3, .int l3)] [] μ :=
  lp_ind (P := fun s : Nat × Int64 × Int32 × MS => WW X D cy b r μ' 5 0 0 178 [(0, .ref (b + s.1)), (1, .long s.2.1), (3, .int s.2.2.1)] [] s.2.2.2) (Q := (fun z : Int64 × MS => r = some (.long z.1) ∧ μ' = z.2)) (fun s z hz hk => t_L_tale_178_b hB hz hk) (l0, l1, l3, μ) z hf hk
set_option maxHeartbeats 4000000 in
set_option maxRecDepth 100000 in
theorem t_L_tale_176 {X : BX} {D : va_G} {cy : Nat → ClassId} {b : Nat} {r : Option Value} {μ' : MS} (hB : BB X D cy b yL_tale cL_tale 5 (some .long) rmL_tale) {l0 : Nat} {l1 : Int64} {μ : MS} {z : (Int64 × MS)} (hf : f_L_tale_176 l0 l1 μ = some z) (hk : (fun z : Int64 × MS => r = some (.long z.1) ∧ μ' = z.2) z) : WW X D cy b r μ' 5 0 0 176 [(0, .ref (b + l0)), (1, .long l1)] [] μ := by
  unfold f_L_tale_176 at hf
  refine r_iconst hB (v := 0) (by decide +kernel : decode cL_tale 176 = .ok (.iconst 0, 1)) (by decide +kernel) ?_
  refine r_istore_n hB (by decide +kernel : decode cL_tale 177 = .ok (.istore_n 3, 1)) rfl (by decide) rfl ?_
  refine ww_lv (lv' := [(3, .int 0), (0, .ref (b + l0)), (1, .long l1)]) rfl ?_
  exact WW.sub [1, 2, 0] rfl (t_L_tale_178 hB hf hk)
set_option maxHeartbeats 4000000 in
set_option maxRecDepth 100000 in
theorem t_L_tale_170 {X : BX} {D : va_G} {cy : Nat → ClassId} {b : Nat} {r : Option Value} {μ' : MS} (hB : BB X D cy b yL_tale cL_tale 5 (some .long) rmL_tale) {l0 : Nat} {l1 : Int64} {l3 : Int32} {μ : MS} {z : ((Nat × Int64 × Int32 × MS) ⊕ (Int64 × MS))} (hf : f_L_tale_170 l0 l1 l3 μ = some z) (hk : (Sum.elim (fun s : Nat × Int64 × Int32 × MS => WW X D cy b r μ' 5 0 0 130 [(0, .ref (b + s.1)), (1, .long s.2.1), (3, .int s.2.2.1)] [] s.2.2.2) (fun z : Int64 × MS => r = some (.long z.1) ∧ μ' = z.2)) z) : WW X D cy b r μ' 5 0 0 170 [(0, .ref (b + l0)), (1, .long l1), (3, .int l3)] [] μ := by
  unfold f_L_tale_170 at hf
  refine r_iincB hB 2 rfl (by decide +kernel : decode cL_tale 170 = .ok (.iinc 3 1, 3)) (w := 1) (by decide +kernel) (by decide) hf (fun v170 hf => ?_)
  refine ww_lv (lv' := [(3, .int v170), (0, .ref (b + l0)), (1, .long l1)]) rfl ?_
  refine r_goto hB (tgt := 130) (by decide +kernel : decode cL_tale 173 = .ok (.goto (-43), 3)) (by decide) ?_
  obtain rfl := Option.some.inj hf
  exact WW.sub [1, 2, 0] rfl hk
set_option maxHeartbeats 4000000 in
set_option maxRecDepth 100000 in
theorem t_L_tale_142_b {X : BX} {D : va_G} {cy : Nat → ClassId} {b : Nat} {r : Option Value} {μ' : MS} (hB : BB X D cy b yL_tale cL_tale 5 (some .long) rmL_tale) {l0 : Nat} {l1 : Int64} {l3 : Int32} {l4 : Int32} {μ : MS} {z : ((Nat × Int64 × Int32 × Int32 × MS) ⊕ ((Nat × Int64 × Int32 × MS) ⊕ (Int64 × MS)))} (hf : f_L_tale_142_b l0 l1 l3 l4 μ = some z) (hk : (Sum.elim (fun s : Nat × Int64 × Int32 × Int32 × MS => WW X D cy b r μ' 5 0 0 142 [(0, .ref (b + s.1)), (1, .long s.2.1), (3, .int s.2.2.1), (4, .int s.2.2.2.1)] [] s.2.2.2.2) (Sum.elim (fun s : Nat × Int64 × Int32 × MS => WW X D cy b r μ' 5 0 0 130 [(0, .ref (b + s.1)), (1, .long s.2.1), (3, .int s.2.2.1)] [] s.2.2.2) (fun z : Int64 × MS => r = some (.long z.1) ∧ μ' = z.2))) z) : WW X D cy b r μ' 5 0 0 142 [(0, .ref (b + l0)), (1, .long l1), (3, .int l3), (4, .int l4)] [] μ := by
  unfold f_L_tale_142_b at hf
  refine r_iload hB 3 rfl (by decide +kernel : decode cL_tale 142 = .ok (.iload 4, 2)) ?_
  refine r_bipush hB (v := 9) (by decide +kernel : decode cL_tale 144 = .ok (.bipush 9, 2)) (by decide +kernel) ?_
  refine r_icmp_ge hB (tgt := 170) (by decide +kernel : decode cL_tale 146 = .ok (.if_icmp .ge 24, 3)) (by decide) hf (fun _ hf => ?_) (fun _ hf => ?_)
  · obtain ⟨_, hx0, rfl⟩ := xr_inv hf
    exact WW.sub [0, 1, 2] rfl (t_L_tale_170 hB hx0 hk)
  · refine r_lload_n hB 1 rfl (by decide +kernel : decode cL_tale 149 = .ok (.lload_n 1, 1)) rfl ?_
    refine r_ldc2 hB (v := 43) (own := "PulseRemoteLaw") rfl k_724 (by decide +kernel : decode cL_tale 150 = .ok (.ldc2_w 49, 3)) ?_
    refine r_lmul hB (by decide +kernel : decode cL_tale 153 = .ok (.lmul, 1)) ?_
    refine r_aload_n hB 0 rfl (by decide +kernel : decode cL_tale 154 = .ok (.aload_n 0, 1)) rfl ?_
    refine r_iload_n hB 2 rfl (by decide +kernel : decode cL_tale 155 = .ok (.iload_n 3, 1)) rfl ?_
    refine r_iload hB 3 rfl (by decide +kernel : decode cL_tale 156 = .ok (.iload 4, 2)) ?_
    refine r_cVi hB [.int l3, .int l4] [.long (l1 * 43)] cf11 (own := "PulseRemoteLaw") rfl cmX11_protocol imX11_protocol (Or.inl k_725) (by decide) rfl rfl rfl (Nat.le_of_ble_eq_true rfl) (by decide +kernel : decode cL_tale 158 = .ok (.invokevirtual 51, 3)) (fun z hz => m_X11_protocol _ _ _ _ hz) rfl hf (fun z158 hf => ?_)
    refine r_i2l hB (by decide +kernel : decode cL_tale 161 = .ok (.i2l, 1)) ?_
    refine r_ladd hB (by decide +kernel : decode cL_tale 162 = .ok (.ladd, 1)) ?_
    refine r_nameL hf (fun v163 hf => ?_)
    refine r_lstore_n hB (by decide +kernel : decode cL_tale 163 = .ok (.lstore_n 1, 1)) rfl (by decide) rfl ?_
    refine ww_lv (lv' := [(1, .long v163), (0, .ref (b + l0)), (3, .int l3), (4, .int l4)]) rfl ?_
    refine r_iincB hB 3 rfl (by decide +kernel : decode cL_tale 164 = .ok (.iinc 4 1, 3)) (w := 1) (by decide +kernel) (by decide) hf (fun v164 hf => ?_)
    refine ww_lv (lv' := [(4, .int v164), (1, .long v163), (0, .ref (b + l0)), (3, .int l3)]) rfl ?_
    refine r_goto hB (tgt := 142) (by decide +kernel : decode cL_tale 167 = .ok (.goto (-25), 3)) (by decide) ?_
    obtain rfl := Option.some.inj hf
    exact WW.sub [2, 1, 3, 0] rfl hk
set_option maxHeartbeats 4000000 in
set_option maxRecDepth 100000 in
theorem t_L_tale_142 {X : BX} {D : va_G} {cy : Nat → ClassId} {b : Nat} {r : Option Value} {μ' : MS} (hB : BB X D cy b yL_tale cL_tale 5 (some .long) rmL_tale) {l0 : Nat} {l1 : Int64} {l3 : Int32} {l4 : Int32} {μ : MS} {z : ((Nat × Int64 × Int32 × MS) ⊕ (Int64 × MS))} (hf : f_L_tale_142 l0 l1 l3 l4 μ = some z) (hk : (Sum.elim (fun s : Nat × Int64 × Int32 × MS => WW X D cy b r μ' 5 0 0 130 [(0, .ref (b + s.1)), (1, .long s.2.1), (3, .int s.2.2.1)] [] s.2.2.2) (fun z : Int64 × MS => r = some (.long z.1) ∧ μ' = z.2)) z) : WW X D cy b r μ' 5 0 0 142 [(0, .ref (b + l0)), (1, .long l1), (3, .int l3), (4, .int l4)] [] μ :=
  lp_ind (P := fun s : Nat × Int64 × Int32 × Int32 × MS => WW X D cy b r μ' 5 0 0 142 [(0, .ref (b + s.1)), (1, .long s.2.1), (3, .int s.2.2.1), (4, .int s.2.2.2.1)] [] s.2.2.2.2) (Q := (Sum.elim (fun s : Nat × Int64 × Int32 × MS => WW X D cy b r μ' 5 0 0 130 [(0, .ref (b + s.1)), (1, .long s.2.1), (3, .int s.2.2.1)] [] s.2.2.2) (fun z : Int64 × MS => r = some (.long z.1) ∧ μ' = z.2))) (fun s z hz hk => t_L_tale_142_b hB hz hk) (l0, l1, l3, l4, μ) z hf hk
set_option maxHeartbeats 4000000 in
set_option maxRecDepth 100000 in
theorem t_L_tale_130_b {X : BX} {D : va_G} {cy : Nat → ClassId} {b : Nat} {r : Option Value} {μ' : MS} (hB : BB X D cy b yL_tale cL_tale 5 (some .long) rmL_tale) {l0 : Nat} {l1 : Int64} {l3 : Int32} {μ : MS} {z : ((Nat × Int64 × Int32 × MS) ⊕ (Int64 × MS))} (hf : f_L_tale_130_b l0 l1 l3 μ = some z) (hk : (Sum.elim (fun s : Nat × Int64 × Int32 × MS => WW X D cy b r μ' 5 0 0 130 [(0, .ref (b + s.1)), (1, .long s.2.1), (3, .int s.2.2.1)] [] s.2.2.2) (fun z : Int64 × MS => r = some (.long z.1) ∧ μ' = z.2)) z) : WW X D cy b r μ' 5 0 0 130 [(0, .ref (b + l0)), (1, .long l1), (3, .int l3)] [] μ := by
  unfold f_L_tale_130_b at hf
  refine r_iload_n hB 2 rfl (by decide +kernel : decode cL_tale 130 = .ok (.iload_n 3, 1)) rfl ?_
  refine r_aload_n hB 0 rfl (by decide +kernel : decode cL_tale 131 = .ok (.aload_n 0, 1)) rfl ?_
  refine r_iconst hB (v := 0) (by decide +kernel : decode cL_tale 132 = .ok (.iconst 0, 1)) (by decide +kernel) ?_
  refine r_cVi hB [.int 0] [.int l3] cf11 (own := "PulseRemoteLaw") rfl cmX11_count imX11_count (Or.inl k_432) (by decide) rfl rfl rfl (Nat.le_of_ble_eq_true rfl) (by decide +kernel : decode cL_tale 133 = .ok (.invokevirtual 10, 3)) (fun z hz => m_X11_count _ _ _ _ hz) rfl hf (fun z133 hf => ?_)
  refine r_icmp_ge hB (tgt := 176) (by decide +kernel : decode cL_tale 136 = .ok (.if_icmp .ge 40, 3)) (by decide) hf (fun _ hf => ?_) (fun _ hf => ?_)
  · obtain ⟨_, hx0, rfl⟩ := xr_inv hf
    exact WW.sub [0, 1] rfl (t_L_tale_176 hB hx0 hk)
  · refine r_iconst hB (v := 0) (by decide +kernel : decode cL_tale 139 = .ok (.iconst 0, 1)) (by decide +kernel) ?_
    refine r_istore hB (by decide +kernel : decode cL_tale 140 = .ok (.istore 4, 2)) (by decide) rfl ?_
    refine ww_lv (lv' := [(4, .int 0), (0, .ref (b + l0)), (1, .long l1), (3, .int l3)]) rfl ?_
    exact WW.sub [1, 2, 3, 0] rfl (t_L_tale_142 hB hf hk)
set_option maxHeartbeats 4000000 in
set_option maxRecDepth 100000 in
theorem t_L_tale_130 {X : BX} {D : va_G} {cy : Nat → ClassId} {b : Nat} {r : Option Value} {μ' : MS} (hB : BB X D cy b yL_tale cL_tale 5 (some .long) rmL_tale) {l0 : Nat} {l1 : Int64} {l3 : Int32} {μ : MS} {z : (Int64 × MS)} (hf : f_L_tale_130 l0 l1 l3 μ = some z) (hk : (fun z : Int64 × MS => r = some (.long z.1) ∧ μ' = z.2) z) : WW X D cy b r μ' 5 0 0 130 [(0, .ref (b + l0)), (1, .long l1), (3, .int l3)] [] μ :=
  lp_ind (P := fun s : Nat × Int64 × Int32 × MS => WW X D cy b r μ' 5 0 0 130 [(0, .ref (b + s.1)), (1, .long s.2.1), (3, .int s.2.2.1)] [] s.2.2.2) (Q := (fun z : Int64 × MS => r = some (.long z.1) ∧ μ' = z.2)) (fun s z hz hk => t_L_tale_130_b hB hz hk) (l0, l1, l3, μ) z hf hk
set_option maxHeartbeats 4000000 in
set_option maxRecDepth 100000 in
theorem t_L_tale_128 {X : BX} {D : va_G} {cy : Nat → ClassId} {b : Nat} {r : Option Value} {μ' : MS} (hB : BB X D cy b yL_tale cL_tale 5 (some .long) rmL_tale) {l0 : Nat} {l1 : Int64} {μ : MS} {z : (Int64 × MS)} (hf : f_L_tale_128 l0 l1 μ = some z) (hk : (fun z : Int64 × MS => r = some (.long z.1) ∧ μ' = z.2) z) : WW X D cy b r μ' 5 0 0 128 [(0, .ref (b + l0)), (1, .long l1)] [] μ := by
  unfold f_L_tale_128 at hf
  refine r_iconst hB (v := 0) (by decide +kernel : decode cL_tale 128 = .ok (.iconst 0, 1)) (by decide +kernel) ?_
  refine r_istore_n hB (by decide +kernel : decode cL_tale 129 = .ok (.istore_n 3, 1)) rfl (by decide) rfl ?_
  refine ww_lv (lv' := [(3, .int 0), (0, .ref (b + l0)), (1, .long l1)]) rfl ?_
  exact WW.sub [1, 2, 0] rfl (t_L_tale_130 hB hf hk)
set_option maxHeartbeats 4000000 in
set_option maxRecDepth 100000 in
theorem t_L_tale_76 {X : BX} {D : va_G} {cy : Nat → ClassId} {b : Nat} {r : Option Value} {μ' : MS} (hB : BB X D cy b yL_tale cL_tale 5 (some .long) rmL_tale) {l0 : Nat} {l1 : Int64} {l3 : Int32} {μ : MS} {z : ((Nat × Int64 × Int32 × MS) ⊕ (Int64 × MS))} (hf : f_L_tale_76 l0 l1 l3 μ = some z) (hk : (Sum.elim (fun s : Nat × Int64 × Int32 × MS => WW X D cy b r μ' 5 0 0 24 [(0, .ref (b + s.1)), (1, .long s.2.1), (3, .int s.2.2.1)] [] s.2.2.2) (fun z : Int64 × MS => r = some (.long z.1) ∧ μ' = z.2)) z) : WW X D cy b r μ' 5 0 0 76 [(0, .ref (b + l0)), (1, .long l1), (3, .int l3)] [] μ := by
  unfold f_L_tale_76 at hf
  refine r_lload_n hB 1 rfl (by decide +kernel : decode cL_tale 76 = .ok (.lload_n 1, 1)) rfl ?_
  refine r_ldc2 hB (v := 41) (own := "PulseRemoteLaw") rfl k_720 (by decide +kernel : decode cL_tale 77 = .ok (.ldc2_w 29, 3)) ?_
  refine r_lmul hB (by decide +kernel : decode cL_tale 80 = .ok (.lmul, 1)) ?_
  refine r_aload_n hB 0 rfl (by decide +kernel : decode cL_tale 81 = .ok (.aload_n 0, 1)) rfl ?_
  refine r_iload_n hB 2 rfl (by decide +kernel : decode cL_tale 82 = .ok (.iload_n 3, 1)) rfl ?_
  refine r_cVi hB [.int l3] [.long (l1 * 41)] cf11 (own := "PulseRemoteLaw") rfl cmX11_pressCount imX11_pressCount (Or.inl k_623) (by decide) rfl rfl rfl (Nat.le_of_ble_eq_true rfl) (by decide +kernel : decode cL_tale 83 = .ok (.invokevirtual 31, 3)) (fun z hz => m_X11_pressCount _ _ _ _ hz) rfl hf (fun z83 hf => ?_)
  refine r_i2l hB (by decide +kernel : decode cL_tale 86 = .ok (.i2l, 1)) ?_
  refine r_ladd hB (by decide +kernel : decode cL_tale 87 = .ok (.ladd, 1)) ?_
  refine r_ldc2 hB (v := 5) (own := "PulseRemoteLaw") rfl k_721 (by decide +kernel : decode cL_tale 88 = .ok (.ldc2_w 34, 3)) ?_
  refine r_aload_n hB 0 rfl (by decide +kernel : decode cL_tale 91 = .ok (.aload_n 0, 1)) rfl ?_
  refine r_iload_n hB 2 rfl (by decide +kernel : decode cL_tale 92 = .ok (.iload_n 3, 1)) rfl ?_
  refine r_cVi hB [.int l3] [.long 5, .long ((l1 * 41) + z83.1.toInt64)] cf11 (own := "PulseRemoteLaw") rfl cmX11_strayCount imX11_strayCount (Or.inl k_682) (by decide) rfl rfl rfl (Nat.le_of_ble_eq_true rfl) (by decide +kernel : decode cL_tale 93 = .ok (.invokevirtual 36, 3)) (fun z hz => m_X11_strayCount _ _ _ _ hz) rfl hf (fun z93 hf => ?_)
  refine r_i2l hB (by decide +kernel : decode cL_tale 96 = .ok (.i2l, 1)) ?_
  refine r_lmul hB (by decide +kernel : decode cL_tale 97 = .ok (.lmul, 1)) ?_
  refine r_ladd hB (by decide +kernel : decode cL_tale 98 = .ok (.ladd, 1)) ?_
  refine r_ldc2 hB (v := 11) (own := "PulseRemoteLaw") rfl k_722 (by decide +kernel : decode cL_tale 99 = .ok (.ldc2_w 39, 3)) ?_
  refine r_aload_n hB 0 rfl (by decide +kernel : decode cL_tale 102 = .ok (.aload_n 0, 1)) rfl ?_
  refine r_iload_n hB 2 rfl (by decide +kernel : decode cL_tale 103 = .ok (.iload_n 3, 1)) rfl ?_
  refine r_cVi hB [.int l3] [.long 11, .long (((l1 * 41) + z83.1.toInt64) + (5 * z93.1.toInt64))] cf11 (own := "PulseRemoteLaw") rfl cmX11_frameCount imX11_frameCount (Or.inl k_481) (by decide) rfl rfl rfl (Nat.le_of_ble_eq_true rfl) (by decide +kernel : decode cL_tale 104 = .ok (.invokevirtual 41, 3)) (fun z hz => m_X11_frameCount _ _ _ _ hz) rfl hf (fun z104 hf => ?_)
  refine r_i2l hB (by decide +kernel : decode cL_tale 107 = .ok (.i2l, 1)) ?_
  refine r_lmul hB (by decide +kernel : decode cL_tale 108 = .ok (.lmul, 1)) ?_
  refine r_ladd hB (by decide +kernel : decode cL_tale 109 = .ok (.ladd, 1)) ?_
  refine r_ldc2 hB (v := 13) (own := "PulseRemoteLaw") rfl k_723 (by decide +kernel : decode cL_tale 110 = .ok (.ldc2_w 44, 3)) ?_
  refine r_aload_n hB 0 rfl (by decide +kernel : decode cL_tale 113 = .ok (.aload_n 0, 1)) rfl ?_
  refine r_iload_n hB 2 rfl (by decide +kernel : decode cL_tale 114 = .ok (.iload_n 3, 1)) rfl ?_
  refine r_cVi hB [.int l3] [.long 13, .long ((((l1 * 41) + z83.1.toInt64) + (5 * z93.1.toInt64)) + (11 * z104.1.toInt64))] cf11 (own := "PulseRemoteLaw") rfl cmX11_neededTolerance imX11_neededTolerance (Or.inl k_686) (by decide) rfl rfl rfl (Nat.le_of_ble_eq_true rfl) (by decide +kernel : decode cL_tale 115 = .ok (.invokevirtual 46, 3)) (fun z hz => m_X11_neededTolerance _ _ _ _ hz) rfl hf (fun z115 hf => ?_)
  refine r_i2l hB (by decide +kernel : decode cL_tale 118 = .ok (.i2l, 1)) ?_
  refine r_lmul hB (by decide +kernel : decode cL_tale 119 = .ok (.lmul, 1)) ?_
  refine r_ladd hB (by decide +kernel : decode cL_tale 120 = .ok (.ladd, 1)) ?_
  refine r_nameL hf (fun v121 hf => ?_)
  refine r_lstore_n hB (by decide +kernel : decode cL_tale 121 = .ok (.lstore_n 1, 1)) rfl (by decide) rfl ?_
  refine ww_lv (lv' := [(1, .long v121), (0, .ref (b + l0)), (3, .int l3)]) rfl ?_
  refine r_iincB hB 2 rfl (by decide +kernel : decode cL_tale 122 = .ok (.iinc 3 1, 3)) (w := 1) (by decide +kernel) (by decide) hf (fun v122 hf => ?_)
  refine ww_lv (lv' := [(3, .int v122), (1, .long v121), (0, .ref (b + l0))]) rfl ?_
  refine r_goto hB (tgt := 24) (by decide +kernel : decode cL_tale 125 = .ok (.goto (-101), 3)) (by decide) ?_
  obtain rfl := Option.some.inj hf
  exact WW.sub [2, 1, 0] rfl hk
set_option maxHeartbeats 4000000 in
set_option maxRecDepth 100000 in
theorem t_L_tale_45_b {X : BX} {D : va_G} {cy : Nat → ClassId} {b : Nat} {r : Option Value} {μ' : MS} (hB : BB X D cy b yL_tale cL_tale 5 (some .long) rmL_tale) {l0 : Nat} {l1 : Int64} {l3 : Int32} {l4 : Int32} {μ : MS} {z : ((Nat × Int64 × Int32 × Int32 × MS) ⊕ ((Nat × Int64 × Int32 × MS) ⊕ (Int64 × MS)))} (hf : f_L_tale_45_b l0 l1 l3 l4 μ = some z) (hk : (Sum.elim (fun s : Nat × Int64 × Int32 × Int32 × MS => WW X D cy b r μ' 5 0 0 45 [(0, .ref (b + s.1)), (1, .long s.2.1), (3, .int s.2.2.1), (4, .int s.2.2.2.1)] [] s.2.2.2.2) (Sum.elim (fun s : Nat × Int64 × Int32 × MS => WW X D cy b r μ' 5 0 0 24 [(0, .ref (b + s.1)), (1, .long s.2.1), (3, .int s.2.2.1)] [] s.2.2.2) (fun z : Int64 × MS => r = some (.long z.1) ∧ μ' = z.2))) z) : WW X D cy b r μ' 5 0 0 45 [(0, .ref (b + l0)), (1, .long l1), (3, .int l3), (4, .int l4)] [] μ := by
  unfold f_L_tale_45_b at hf
  refine r_iload hB 3 rfl (by decide +kernel : decode cL_tale 45 = .ok (.iload 4, 2)) ?_
  refine r_aload_n hB 0 rfl (by decide +kernel : decode cL_tale 47 = .ok (.aload_n 0, 1)) rfl ?_
  refine r_iload_n hB 2 rfl (by decide +kernel : decode cL_tale 48 = .ok (.iload_n 3, 1)) rfl ?_
  refine r_cVi hB [.int l3] [.int l4] cf11 (own := "PulseRemoteLaw") rfl cmX11_length imX11_length (Or.inl k_711) (by decide) rfl rfl rfl (Nat.le_of_ble_eq_true rfl) (by decide +kernel : decode cL_tale 49 = .ok (.invokevirtual 20, 3)) (fun z hz => m_X11_length _ _ _ _ hz) rfl hf (fun z49 hf => ?_)
  refine r_icmp_ge hB (tgt := 76) (by decide +kernel : decode cL_tale 52 = .ok (.if_icmp .ge 24, 3)) (by decide) hf (fun _ hf => ?_) (fun _ hf => ?_)
  · obtain ⟨_, hx0, rfl⟩ := xr_inv hf
    exact WW.sub [0, 1, 2] rfl (t_L_tale_76 hB hx0 hk)
  · refine r_lload_n hB 1 rfl (by decide +kernel : decode cL_tale 55 = .ok (.lload_n 1, 1)) rfl ?_
    refine r_ldc2 hB (v := 37) (own := "PulseRemoteLaw") rfl k_715 (by decide +kernel : decode cL_tale 56 = .ok (.ldc2_w 23, 3)) ?_
    refine r_lmul hB (by decide +kernel : decode cL_tale 59 = .ok (.lmul, 1)) ?_
    refine r_aload_n hB 0 rfl (by decide +kernel : decode cL_tale 60 = .ok (.aload_n 0, 1)) rfl ?_
    refine r_iload_n hB 2 rfl (by decide +kernel : decode cL_tale 61 = .ok (.iload_n 3, 1)) rfl ?_
    refine r_iload hB 3 rfl (by decide +kernel : decode cL_tale 62 = .ok (.iload 4, 2)) ?_
    refine r_cVi hB [.int l3, .int l4] [.long (l1 * 37)] cf11 (own := "PulseRemoteLaw") rfl cmX11_duration imX11_duration (Or.inl k_716) (by decide) rfl rfl rfl (Nat.le_of_ble_eq_true rfl) (by decide +kernel : decode cL_tale 64 = .ok (.invokevirtual 25, 3)) (fun z hz => m_X11_duration _ _ _ _ hz) rfl hf (fun z64 hf => ?_)
    refine r_i2l hB (by decide +kernel : decode cL_tale 67 = .ok (.i2l, 1)) ?_
    refine r_ladd hB (by decide +kernel : decode cL_tale 68 = .ok (.ladd, 1)) ?_
    refine r_nameL hf (fun v69 hf => ?_)
    refine r_lstore_n hB (by decide +kernel : decode cL_tale 69 = .ok (.lstore_n 1, 1)) rfl (by decide) rfl ?_
    refine ww_lv (lv' := [(1, .long v69), (0, .ref (b + l0)), (3, .int l3), (4, .int l4)]) rfl ?_
    refine r_iincB hB 3 rfl (by decide +kernel : decode cL_tale 70 = .ok (.iinc 4 1, 3)) (w := 1) (by decide +kernel) (by decide) hf (fun v70 hf => ?_)
    refine ww_lv (lv' := [(4, .int v70), (1, .long v69), (0, .ref (b + l0)), (3, .int l3)]) rfl ?_
    refine r_goto hB (tgt := 45) (by decide +kernel : decode cL_tale 73 = .ok (.goto (-28), 3)) (by decide) ?_
    obtain rfl := Option.some.inj hf
    exact WW.sub [2, 1, 3, 0] rfl hk
set_option maxHeartbeats 4000000 in
set_option maxRecDepth 100000 in
theorem t_L_tale_45 {X : BX} {D : va_G} {cy : Nat → ClassId} {b : Nat} {r : Option Value} {μ' : MS} (hB : BB X D cy b yL_tale cL_tale 5 (some .long) rmL_tale) {l0 : Nat} {l1 : Int64} {l3 : Int32} {l4 : Int32} {μ : MS} {z : ((Nat × Int64 × Int32 × MS) ⊕ (Int64 × MS))} (hf : f_L_tale_45 l0 l1 l3 l4 μ = some z) (hk : (Sum.elim (fun s : Nat × Int64 × Int32 × MS => WW X D cy b r μ' 5 0 0 24 [(0, .ref (b + s.1)), (1, .long s.2.1), (3, .int s.2.2.1)] [] s.2.2.2) (fun z : Int64 × MS => r = some (.long z.1) ∧ μ' = z.2)) z) : WW X D cy b r μ' 5 0 0 45 [(0, .ref (b + l0)), (1, .long l1), (3, .int l3), (4, .int l4)] [] μ :=
  lp_ind (P := fun s : Nat × Int64 × Int32 × Int32 × MS => WW X D cy b r μ' 5 0 0 45 [(0, .ref (b + s.1)), (1, .long s.2.1), (3, .int s.2.2.1), (4, .int s.2.2.2.1)] [] s.2.2.2.2) (Q := (Sum.elim (fun s : Nat × Int64 × Int32 × MS => WW X D cy b r μ' 5 0 0 24 [(0, .ref (b + s.1)), (1, .long s.2.1), (3, .int s.2.2.1)] [] s.2.2.2) (fun z : Int64 × MS => r = some (.long z.1) ∧ μ' = z.2))) (fun s z hz hk => t_L_tale_45_b hB hz hk) (l0, l1, l3, l4, μ) z hf hk
set_option maxHeartbeats 4000000 in
set_option maxRecDepth 100000 in
theorem t_L_tale_24_b {X : BX} {D : va_G} {cy : Nat → ClassId} {b : Nat} {r : Option Value} {μ' : MS} (hB : BB X D cy b yL_tale cL_tale 5 (some .long) rmL_tale) {l0 : Nat} {l1 : Int64} {l3 : Int32} {μ : MS} {z : ((Nat × Int64 × Int32 × MS) ⊕ (Int64 × MS))} (hf : f_L_tale_24_b l0 l1 l3 μ = some z) (hk : (Sum.elim (fun s : Nat × Int64 × Int32 × MS => WW X D cy b r μ' 5 0 0 24 [(0, .ref (b + s.1)), (1, .long s.2.1), (3, .int s.2.2.1)] [] s.2.2.2) (fun z : Int64 × MS => r = some (.long z.1) ∧ μ' = z.2)) z) : WW X D cy b r μ' 5 0 0 24 [(0, .ref (b + l0)), (1, .long l1), (3, .int l3)] [] μ := by
  unfold f_L_tale_24_b at hf
  refine r_iload_n hB 2 rfl (by decide +kernel : decode cL_tale 24 = .ok (.iload_n 3, 1)) rfl ?_
  refine r_iconst hB (v := 3) (by decide +kernel : decode cL_tale 25 = .ok (.iconst 3, 1)) (by decide +kernel) ?_
  refine r_icmp_ge hB (tgt := 128) (by decide +kernel : decode cL_tale 26 = .ok (.if_icmp .ge 102, 3)) (by decide) hf (fun _ hf => ?_) (fun _ hf => ?_)
  · obtain ⟨_, hx0, rfl⟩ := xr_inv hf
    exact WW.sub [0, 1] rfl (t_L_tale_128 hB hx0 hk)
  · refine r_lload_n hB 1 rfl (by decide +kernel : decode cL_tale 29 = .ok (.lload_n 1, 1)) rfl ?_
    refine r_ldc2 hB (v := 31) (own := "PulseRemoteLaw") rfl k_710 (by decide +kernel : decode cL_tale 30 = .ok (.ldc2_w 18, 3)) ?_
    refine r_lmul hB (by decide +kernel : decode cL_tale 33 = .ok (.lmul, 1)) ?_
    refine r_aload_n hB 0 rfl (by decide +kernel : decode cL_tale 34 = .ok (.aload_n 0, 1)) rfl ?_
    refine r_iload_n hB 2 rfl (by decide +kernel : decode cL_tale 35 = .ok (.iload_n 3, 1)) rfl ?_
    refine r_cVi hB [.int l3] [.long (l1 * 31)] cf11 (own := "PulseRemoteLaw") rfl cmX11_length imX11_length (Or.inl k_711) (by decide) rfl rfl rfl (Nat.le_of_ble_eq_true rfl) (by decide +kernel : decode cL_tale 36 = .ok (.invokevirtual 20, 3)) (fun z hz => m_X11_length _ _ _ _ hz) rfl hf (fun z36 hf => ?_)
    refine r_i2l hB (by decide +kernel : decode cL_tale 39 = .ok (.i2l, 1)) ?_
    refine r_ladd hB (by decide +kernel : decode cL_tale 40 = .ok (.ladd, 1)) ?_
    refine r_nameL hf (fun v41 hf => ?_)
    refine r_lstore_n hB (by decide +kernel : decode cL_tale 41 = .ok (.lstore_n 1, 1)) rfl (by decide) rfl ?_
    refine ww_lv (lv' := [(1, .long v41), (0, .ref (b + l0)), (3, .int l3)]) rfl ?_
    refine r_iconst hB (v := 0) (by decide +kernel : decode cL_tale 42 = .ok (.iconst 0, 1)) (by decide +kernel) ?_
    refine r_istore hB (by decide +kernel : decode cL_tale 43 = .ok (.istore 4, 2)) (by decide) rfl ?_
    refine ww_lv (lv' := [(4, .int 0), (1, .long v41), (0, .ref (b + l0)), (3, .int l3)]) rfl ?_
    exact WW.sub [2, 1, 3, 0] rfl (t_L_tale_45 hB hf hk)
set_option maxHeartbeats 4000000 in
set_option maxRecDepth 100000 in
theorem t_L_tale_24 {X : BX} {D : va_G} {cy : Nat → ClassId} {b : Nat} {r : Option Value} {μ' : MS} (hB : BB X D cy b yL_tale cL_tale 5 (some .long) rmL_tale) {l0 : Nat} {l1 : Int64} {l3 : Int32} {μ : MS} {z : (Int64 × MS)} (hf : f_L_tale_24 l0 l1 l3 μ = some z) (hk : (fun z : Int64 × MS => r = some (.long z.1) ∧ μ' = z.2) z) : WW X D cy b r μ' 5 0 0 24 [(0, .ref (b + l0)), (1, .long l1), (3, .int l3)] [] μ :=
  lp_ind (P := fun s : Nat × Int64 × Int32 × MS => WW X D cy b r μ' 5 0 0 24 [(0, .ref (b + s.1)), (1, .long s.2.1), (3, .int s.2.2.1)] [] s.2.2.2) (Q := (fun z : Int64 × MS => r = some (.long z.1) ∧ μ' = z.2)) (fun s z hz hk => t_L_tale_24_b hB hz hk) (l0, l1, l3, μ) z hf hk
set_option maxHeartbeats 4000000 in
set_option maxRecDepth 100000 in
theorem t_L_tale_0 {X : BX} {D : va_G} {cy : Nat → ClassId} {b : Nat} {r : Option Value} {μ' : MS} (hB : BB X D cy b yL_tale cL_tale 5 (some .long) rmL_tale) {l0 : Nat} {μ : MS} {z : (Int64 × MS)} (hf : f_L_tale l0 μ = some z) (hk : (fun z : Int64 × MS => r = some (.long z.1) ∧ μ' = z.2) z) : WW X D cy b r μ' 5 0 0 0 [(0, .ref (b + l0))] [] μ := by
  unfold f_L_tale at hf
  refine r_ldc2 hB (v := 3) (own := "PulseRemoteLaw") rfl k_708 (by decide +kernel : decode cL_tale 0 = .ok (.ldc2_w 8, 3)) ?_
  refine r_aload_n hB 0 rfl (by decide +kernel : decode cL_tale 3 = .ok (.aload_n 0, 1)) rfl ?_
  refine r_iconst hB (v := 0) (by decide +kernel : decode cL_tale 4 = .ok (.iconst 0, 1)) (by decide +kernel) ?_
  refine r_cVi hB [.int 0] [.long 3] cf11 (own := "PulseRemoteLaw") rfl cmX11_count imX11_count (Or.inl k_432) (by decide) rfl rfl rfl (Nat.le_of_ble_eq_true rfl) (by decide +kernel : decode cL_tale 5 = .ok (.invokevirtual 10, 3)) (fun z hz => m_X11_count _ _ _ _ hz) rfl hf (fun z5 hf => ?_)
  refine r_i2l hB (by decide +kernel : decode cL_tale 8 = .ok (.i2l, 1)) ?_
  refine r_ladd hB (by decide +kernel : decode cL_tale 9 = .ok (.ladd, 1)) ?_
  refine r_ldc2 hB (v := 7) (own := "PulseRemoteLaw") rfl k_709 (by decide +kernel : decode cL_tale 10 = .ok (.ldc2_w 16, 3)) ?_
  refine r_aload_n hB 0 rfl (by decide +kernel : decode cL_tale 13 = .ok (.aload_n 0, 1)) rfl ?_
  refine r_iconst hB (v := 1) (by decide +kernel : decode cL_tale 14 = .ok (.iconst 1, 1)) (by decide +kernel) ?_
  refine r_cVi hB [.int 1] [.long 7, .long (3 + z5.1.toInt64)] cf11 (own := "PulseRemoteLaw") rfl cmX11_count imX11_count (Or.inl k_432) (by decide) rfl rfl rfl (Nat.le_of_ble_eq_true rfl) (by decide +kernel : decode cL_tale 15 = .ok (.invokevirtual 10, 3)) (fun z hz => m_X11_count _ _ _ _ hz) rfl hf (fun z15 hf => ?_)
  refine r_i2l hB (by decide +kernel : decode cL_tale 18 = .ok (.i2l, 1)) ?_
  refine r_lmul hB (by decide +kernel : decode cL_tale 19 = .ok (.lmul, 1)) ?_
  refine r_ladd hB (by decide +kernel : decode cL_tale 20 = .ok (.ladd, 1)) ?_
  refine r_nameL hf (fun v21 hf => ?_)
  refine r_lstore_n hB (by decide +kernel : decode cL_tale 21 = .ok (.lstore_n 1, 1)) rfl (by decide) rfl ?_
  refine ww_lv (lv' := [(1, .long v21), (0, .ref (b + l0))]) rfl ?_
  refine r_iconst hB (v := 0) (by decide +kernel : decode cL_tale 22 = .ok (.iconst 0, 1)) (by decide +kernel) ?_
  refine r_istore_n hB (by decide +kernel : decode cL_tale 23 = .ok (.istore_n 3, 1)) rfl (by decide) rfl ?_
  refine ww_lv (lv' := [(3, .int 0), (1, .long v21), (0, .ref (b + l0))]) rfl ?_
  exact WW.sub [2, 1, 0] rfl (t_L_tale_24 hB hf hk)
theorem m_L_tale (l : Launch) (D : va_G) (cy : Nat → ClassId) (b : Nat) {l0 : Nat} {μ : MS} {z : Int64 × MS} (hf : f_L_tale l0 μ = some z) : Met l yL_tale (.code yL_tale cL_tale 5 (some .long) :: GW) rmL_tale (Pw D cy b [.ref (b + l0)] μ) (Qw D cy b (some (.long z.1)) (z.2)) rmL_tale.cells rmL_tale.slots (fun q => b ≤ q) :=
  met_of (by decide) (Nat.le_of_ble_eq_true rfl) (fun X hB _ => (t_L_tale_0 hB hf ⟨rfl, rfl⟩))
