/-! printed by wip/whole/gen.py -/
-- PulseRemote.sendShort(III)I
set_option maxHeartbeats 4000000 in
set_option maxRecDepth 100000 in
theorem t_X11_sendShort_0 {X : BX} {D : va_G} {cy : Nat → ClassId} {b : Nat} {r : Option Value} {μ' : MS} (hB : BB X D cy b yX11_sendShort cX11_sendShort 4 (some .int) rmX11_sendShort) {l0 : Nat} {l1 : Int32} {l2 : Int32} {l3 : Int32} {μ : MS} {z : (Int32 × MS)} (hf : f_X11_sendShort l0 l1 l2 l3 μ = some z) (hk : (fun z : Int32 × MS => r = some (.int z.1) ∧ μ' = z.2) z) : WW X D cy b r μ' 4 0 0 0 [(0, .ref (b + l0)), (1, .int l1), (2, .int l2), (3, .int l3)] [] μ := by
  unfold f_X11_sendShort at hf
  refine r_iload_n hB 1 rfl (by decide +kernel : decode cX11_sendShort 0 = .ok (.iload_n 1, 1)) rfl ?_
  refine r_cSi hB [.int l1] [] (own := "PulseRemote") rfl cmX11_isSlot smX11_isSlot (Or.inl ⟨rfl, k_589⟩) (by decide) rfl rfl rfl (Nat.le_of_ble_eq_true rfl) (by decide +kernel : decode cX11_sendShort 1 = .ok (.invokestatic 156, 3)) (fun z hz => m_X11_isSlot _ _ _ _ hz) rfl hf (fun z1 hf => ?_)
  refine r_if_eq hB (tgt := 31) (by decide +kernel : decode cX11_sendShort 4 = .ok (.ifCond .eq 27, 3)) (by decide) hf (fun _ hf => ?_) (fun _ hf => ?_)
  · refine r_iconst hB (v := (-1)) (by decide +kernel : decode cX11_sendShort 31 = .ok (.iconst (-1), 1)) (by decide +kernel) ?_
    obtain rfl := Option.some.inj hf
    obtain ⟨rfl, rfl⟩ := hk
    exact r_iret hB (by decide +kernel : decode cX11_sendShort 32 = .ok (.ireturn, 1))
  · refine r_aload_n hB 0 rfl (by decide +kernel : decode cX11_sendShort 7 = .ok (.aload_n 0, 1)) rfl ?_
    refine r_gR hB cf11 0 (by decide) (own := "PulseRemote") rfl (Or.inl k_465) (by decide +kernel) (by decide +kernel : decode cX11_sendShort 8 = .ok (.getfield 12, 3)) hf (fun x8 hf => ?_)
    refine r_gR hB cf7 0 (by decide) (own := "PulseRemote") rfl (Or.inr ⟨_, k_212⟩) (by decide +kernel) (by decide +kernel : decode cX11_sendShort 11 = .ok (.getfield 84, 3)) hf (fun x11 hf => ?_)
    refine r_iload_n hB 2 rfl (by decide +kernel : decode cX11_sendShort 14 = .ok (.iload_n 2, 1)) rfl ?_
    refine r_cVi hB [.int l2] [] cf8 (own := "PulseRemote") rfl cmX8_hasProtocol imX8_hasProtocol (Or.inl k_565) (by decide) rfl rfl rfl (Nat.le_of_ble_eq_true rfl) (by decide +kernel : decode cX11_sendShort 15 = .ok (.invokevirtual 98, 3)) (fun z hz => m_X8_hasProtocol _ _ _ _ hz) rfl hf (fun z15 hf => ?_)
    refine r_if_eq hB (tgt := 31) (by decide +kernel : decode cX11_sendShort 18 = .ok (.ifCond .eq 13, 3)) (by decide) hf (fun _ hf => ?_) (fun _ hf => ?_)
    · refine r_iconst hB (v := (-1)) (by decide +kernel : decode cX11_sendShort 31 = .ok (.iconst (-1), 1)) (by decide +kernel) ?_
      obtain rfl := Option.some.inj hf
      obtain ⟨rfl, rfl⟩ := hk
      exact r_iret hB (by decide +kernel : decode cX11_sendShort 32 = .ok (.ireturn, 1))
    · refine r_iload_n hB 3 rfl (by decide +kernel : decode cX11_sendShort 21 = .ok (.iload_n 3, 1)) rfl ?_
      refine r_iconst hB (v := 1) (by decide +kernel : decode cX11_sendShort 22 = .ok (.iconst 1, 1)) (by decide +kernel) ?_
      refine r_ldc hB (v := 60000) (own := "PulseRemote") rfl k_720 (by decide +kernel : decode cX11_sendShort 23 = .ok (.ldc 222, 2)) ?_
      refine r_cSi hB [.int l3, .int 1, .int 60000] [] (own := "PulseRemote") rfl cmX11_inRange smX11_inRange (Or.inl ⟨rfl, k_506⟩) (by decide) rfl rfl rfl (Nat.le_of_ble_eq_true rfl) (by decide +kernel : decode cX11_sendShort 25 = .ok (.invokestatic 80, 3)) (fun z hz => m_X11_inRange _ _ _ _ hz) rfl hf (fun z25 hf => ?_)
      refine r_if_ne hB (tgt := 33) (by decide +kernel : decode cX11_sendShort 28 = .ok (.ifCond .ne 5, 3)) (by decide) hf (fun _ hf => ?_) (fun _ hf => ?_)
      · refine r_iconst hB (v := (-1)) (by decide +kernel : decode cX11_sendShort 31 = .ok (.iconst (-1), 1)) (by decide +kernel) ?_
        obtain rfl := Option.some.inj hf
        obtain ⟨rfl, rfl⟩ := hk
        exact r_iret hB (by decide +kernel : decode cX11_sendShort 32 = .ok (.ireturn, 1))
      · refine r_aload_n hB 0 rfl (by decide +kernel : decode cX11_sendShort 33 = .ok (.aload_n 0, 1)) rfl ?_
        refine r_gR hB cf11 0 (by decide) (own := "PulseRemote") rfl (Or.inl k_465) (by decide +kernel) (by decide +kernel : decode cX11_sendShort 34 = .ok (.getfield 12, 3)) hf (fun x34 hf => ?_)
        refine r_gR hB cf7 0 (by decide) (own := "PulseRemote") rfl (Or.inr ⟨_, k_212⟩) (by decide +kernel) (by decide +kernel : decode cX11_sendShort 37 = .ok (.getfield 84, 3)) hf (fun x37 hf => ?_)
        refine r_iload_n hB 2 rfl (by decide +kernel : decode cX11_sendShort 40 = .ok (.iload_n 2, 1)) rfl ?_
        refine r_cVr hB [.int l2] [] cf8 (own := "PulseRemote") rfl cmX8_protocolAt imX8_protocolAt (Or.inl k_569) (by decide) rfl rfl rfl (Nat.le_of_ble_eq_true rfl) (by decide +kernel : decode cX11_sendShort 41 = .ok (.invokevirtual 102, 3)) (fun z hz => m_X8_protocolAt _ _ _ _ hz) rfl hf (fun z41 hf => ?_)
        refine r_aload_n hB 0 rfl (by decide +kernel : decode cX11_sendShort 44 = .ok (.aload_n 0, 1)) rfl ?_
        refine r_gR hB cf11 5 (by decide) (own := "PulseRemote") rfl (Or.inl k_470) (by decide +kernel) (by decide +kernel : decode cX11_sendShort 45 = .ok (.getfield 37, 3)) hf (fun x45 hf => ?_)
        refine r_cVv hB [.ref (b + x45)] [] cf6 (own := "PulseRemote") rfl cmX6_writeShortFrame imX6_writeShortFrame (Or.inl k_889) (by decide) rfl rfl rfl (Nat.le_of_ble_eq_true rfl) (by decide +kernel : decode cX11_sendShort 48 = .ok (.invokevirtual 256, 3)) (fun z hz => m_X6_writeShortFrame _ _ _ _ hz) rfl hf (fun z48 hf => ?_)
        refine r_aload_n hB 0 rfl (by decide +kernel : decode cX11_sendShort 51 = .ok (.aload_n 0, 1)) rfl ?_
        refine r_aload_n hB 0 rfl (by decide +kernel : decode cX11_sendShort 52 = .ok (.aload_n 0, 1)) rfl ?_
        refine r_gR hB cf11 0 (by decide) (own := "PulseRemote") rfl (Or.inl k_465) (by decide +kernel) (by decide +kernel : decode cX11_sendShort 53 = .ok (.getfield 12, 3)) hf (fun x53 hf => ?_)
        refine r_iload_n hB 1 rfl (by decide +kernel : decode cX11_sendShort 56 = .ok (.iload_n 1, 1)) rfl ?_
        refine r_cVr hB [.int l1] [.ref (b + l0)] cf7 (own := "PulseRemote") rfl cmX7_trainAt imX7_trainAt (Or.inl k_592) (by decide) rfl rfl rfl (Nat.le_of_ble_eq_true rfl) (by decide +kernel : decode cX11_sendShort 57 = .ok (.invokevirtual 159, 3)) (fun z hz => m_X7_trainAt _ _ _ _ hz) rfl hf (fun z57 hf => ?_)
        refine r_iload_n hB 3 rfl (by decide +kernel : decode cX11_sendShort 60 = .ok (.iload_n 3, 1)) rfl ?_
        refine r_cVi hB [.ref (b + z57.1), .int l3] [] cf11 (own := "PulseRemote") rfl cmX11_appendScratch imX11_appendScratch (Or.inl k_879) (by decide) rfl rfl rfl (Nat.le_of_ble_eq_true rfl) (by decide +kernel : decode cX11_sendShort 61 = .ok (.invokevirtual 252, 3)) (fun z hz => m_X11_appendScratch _ _ _ _ hz) rfl hf (fun z61 hf => ?_)
        obtain rfl := Option.some.inj hf
        obtain ⟨rfl, rfl⟩ := hk
        exact r_iret hB (by decide +kernel : decode cX11_sendShort 64 = .ok (.ireturn, 1))
theorem m_X11_sendShort (l : Launch) (D : va_G) (cy : Nat → ClassId) (b : Nat) {l0 : Nat} {l1 : Int32} {l2 : Int32} {l3 : Int32} {μ : MS} {z : Int32 × MS} (hf : f_X11_sendShort l0 l1 l2 l3 μ = some z) : Met l yX11_sendShort (.code yX11_sendShort cX11_sendShort 4 (some .int) :: GW) rmX11_sendShort (Pw D cy b [.ref (b + l0), .int l1, .int l2, .int l3] μ) (Qw D cy b (some (.int z.1)) (z.2)) rmX11_sendShort.cells rmX11_sendShort.slots (fun q => b ≤ q) :=
  met_of (by decide) (Nat.le_of_ble_eq_true rfl) (fun X hB _ => (t_X11_sendShort_0 hB hf ⟨rfl, rfl⟩))
-- PulseRemote.clear(I)I
set_option maxHeartbeats 4000000 in
set_option maxRecDepth 100000 in
theorem t_X11_clear_0 {X : BX} {D : va_G} {cy : Nat → ClassId} {b : Nat} {r : Option Value} {μ' : MS} (hB : BB X D cy b yX11_clear cX11_clear 4 (some .int) rmX11_clear) {l0 : Nat} {l1 : Int32} {μ : MS} {z : (Int32 × MS)} (hf : f_X11_clear l0 l1 μ = some z) (hk : (fun z : Int32 × MS => r = some (.int z.1) ∧ μ' = z.2) z) : WW X D cy b r μ' 4 0 0 0 [(0, .ref (b + l0)), (1, .int l1)] [] μ := by
  unfold f_X11_clear at hf
  refine r_iload_n hB 1 rfl (by decide +kernel : decode cX11_clear 0 = .ok (.iload_n 1, 1)) rfl ?_
  refine r_cSi hB [.int l1] [] (own := "PulseRemote") rfl cmX11_isSlot smX11_isSlot (Or.inl ⟨rfl, k_589⟩) (by decide) rfl rfl rfl (Nat.le_of_ble_eq_true rfl) (by decide +kernel : decode cX11_clear 1 = .ok (.invokestatic 156, 3)) (fun z hz => m_X11_isSlot _ _ _ _ hz) rfl hf (fun z1 hf => ?_)
  refine r_if_ne hB (tgt := 9) (by decide +kernel : decode cX11_clear 4 = .ok (.ifCond .ne 5, 3)) (by decide) hf (fun _ hf => ?_) (fun _ hf => ?_)
  · refine r_iconst hB (v := (-1)) (by decide +kernel : decode cX11_clear 7 = .ok (.iconst (-1), 1)) (by decide +kernel) ?_
    obtain rfl := Option.some.inj hf
    obtain ⟨rfl, rfl⟩ := hk
    exact r_iret hB (by decide +kernel : decode cX11_clear 8 = .ok (.ireturn, 1))
  · refine r_aload_n hB 0 rfl (by decide +kernel : decode cX11_clear 9 = .ok (.aload_n 0, 1)) rfl ?_
    refine r_cVv hB [] [] cf11 (own := "PulseRemote") rfl cmX11_saveState imX11_saveState (Or.inl k_513) (by decide) rfl rfl rfl (Nat.le_of_ble_eq_true rfl) (by decide +kernel : decode cX11_clear 10 = .ok (.invokevirtual 91, 3)) (fun z hz => m_X11_saveState _ _ _ _ hz) rfl hf (fun z10 hf => ?_)
    refine r_aload_n hB 0 rfl (by decide +kernel : decode cX11_clear 13 = .ok (.aload_n 0, 1)) rfl ?_
    refine r_gR hB cf11 0 (by decide) (own := "PulseRemote") rfl (Or.inl k_465) (by decide +kernel) (by decide +kernel : decode cX11_clear 14 = .ok (.getfield 12, 3)) hf (fun x14 hf => ?_)
    refine r_iload_n hB 1 rfl (by decide +kernel : decode cX11_clear 17 = .ok (.iload_n 1, 1)) rfl ?_
    refine r_cVr hB [.int l1] [] cf7 (own := "PulseRemote") rfl cmX7_trainAt imX7_trainAt (Or.inl k_592) (by decide) rfl rfl rfl (Nat.le_of_ble_eq_true rfl) (by decide +kernel : decode cX11_clear 18 = .ok (.invokevirtual 159, 3)) (fun z hz => m_X7_trainAt _ _ _ _ hz) rfl hf (fun z18 hf => ?_)
    refine r_astore_n hB (by decide +kernel : decode cX11_clear 21 = .ok (.astore_n 2, 1)) rfl (by decide) rfl ?_
    refine ww_lv (lv' := [(2, .ref (b + z18.1)), (0, .ref (b + l0)), (1, .int l1)]) rfl ?_
    refine r_aload_n hB 0 rfl (by decide +kernel : decode cX11_clear 22 = .ok (.aload_n 2, 1)) rfl ?_
    refine r_gI hB cf10 1 (by decide) (own := "PulseRemote") rfl (Or.inr ⟨_, k_204⟩) (by decide +kernel) (by decide +kernel : decode cX11_clear 23 = .ok (.getfield 244, 3)) hf (fun x23 hf => ?_)
    refine r_istore_n hB (by decide +kernel : decode cX11_clear 26 = .ok (.istore_n 3, 1)) rfl (by decide) rfl ?_
    refine ww_lv (lv' := [(3, .int x23), (2, .ref (b + z18.1)), (0, .ref (b + l0)), (1, .int l1)]) rfl ?_
    refine r_aload_n hB 1 rfl (by decide +kernel : decode cX11_clear 27 = .ok (.aload_n 2, 1)) rfl ?_
    refine r_iconst hB (v := 0) (by decide +kernel : decode cX11_clear 28 = .ok (.iconst 0, 1)) (by decide +kernel) ?_
    refine r_pI hB cf10 1 (by decide) (own := "PulseRemote") rfl (Or.inr ⟨_, k_204⟩) (Or.inl rfl) rfl (by decide +kernel : decode cX11_clear 29 = .ok (.putfield 244, 3)) hf (fun m29 hf => ?_)
    refine r_iload_n hB 0 rfl (by decide +kernel : decode cX11_clear 32 = .ok (.iload_n 3, 1)) rfl ?_
    obtain rfl := Option.some.inj hf
    obtain ⟨rfl, rfl⟩ := hk
    exact r_iret hB (by decide +kernel : decode cX11_clear 33 = .ok (.ireturn, 1))
theorem m_X11_clear (l : Launch) (D : va_G) (cy : Nat → ClassId) (b : Nat) {l0 : Nat} {l1 : Int32} {μ : MS} {z : Int32 × MS} (hf : f_X11_clear l0 l1 μ = some z) : Met l yX11_clear (.code yX11_clear cX11_clear 4 (some .int) :: GW) rmX11_clear (Pw D cy b [.ref (b + l0), .int l1] μ) (Qw D cy b (some (.int z.1)) (z.2)) rmX11_clear.cells rmX11_clear.slots (fun q => b ≤ q) :=
  met_of (by decide) (Nat.le_of_ble_eq_true rfl) (fun X hB _ => (t_X11_clear_0 hB hf ⟨rfl, rfl⟩))
-- PulseRemote$Collision.lay(LPulseRemote$Train;LPulseRemote$Train;)V
set_option maxHeartbeats 4000000 in
set_option maxRecDepth 100000 in
theorem t_X1_lay_0 {X : BX} {D : va_G} {cy : Nat → ClassId} {b : Nat} {r : Option Value} {μ' : MS} (hB : BB X D cy b yX1_lay cX1_lay 3 none rmX1_lay) {l0 : Nat} {l1 : Nat} {l2 : Nat} {μ : MS} {z : MS} (hf : f_X1_lay l0 l1 l2 μ = some z) (hk : (fun z : MS => r = none ∧ μ' = z) z) : WW X D cy b r μ' 3 0 0 0 [(0, .ref (b + l0)), (1, .ref (b + l1)), (2, .ref (b + l2))] [] μ := by
  unfold f_X1_lay at hf
  refine r_aload_n hB 0 rfl (by decide +kernel : decode cX1_lay 0 = .ok (.aload_n 0, 1)) rfl ?_
  refine r_gR hB cf1 0 (by decide) (own := "PulseRemote$Collision") rfl (Or.inl k_434) (by decide +kernel) (by decide +kernel : decode cX1_lay 1 = .ok (.getfield 12, 3)) hf (fun x1 hf => ?_)
  refine r_aload_n hB 1 rfl (by decide +kernel : decode cX1_lay 4 = .ok (.aload_n 1, 1)) rfl ?_
  refine r_cVv hB [.ref (b + l1)] [] cf10 (own := "PulseRemote$Collision") rfl cmX10_copyFrom imX10_copyFrom (Or.inl k_905) (by decide) rfl rfl rfl (Nat.le_of_ble_eq_true rfl) (by decide +kernel : decode cX1_lay 5 = .ok (.invokevirtual 21, 3)) (fun z hz => m_X10_copyFrom _ _ _ _ hz) rfl hf (fun z5 hf => ?_)
  refine r_aload_n hB 0 rfl (by decide +kernel : decode cX1_lay 8 = .ok (.aload_n 0, 1)) rfl ?_
  refine r_gR hB cf1 1 (by decide) (own := "PulseRemote$Collision") rfl (Or.inl k_435) (by decide +kernel) (by decide +kernel : decode cX1_lay 9 = .ok (.getfield 18, 3)) hf (fun x9 hf => ?_)
  refine r_aload_n hB 2 rfl (by decide +kernel : decode cX1_lay 12 = .ok (.aload_n 2, 1)) rfl ?_
  refine r_cVv hB [.ref (b + l2)] [] cf10 (own := "PulseRemote$Collision") rfl cmX10_copyFrom imX10_copyFrom (Or.inl k_905) (by decide) rfl rfl rfl (Nat.le_of_ble_eq_true rfl) (by decide +kernel : decode cX1_lay 13 = .ok (.invokevirtual 21, 3)) (fun z hz => m_X10_copyFrom _ _ _ _ hz) rfl hf (fun z13 hf => ?_)
  obtain rfl := Option.some.inj hf
  obtain ⟨rfl, rfl⟩ := hk
  exact r_vret hB (by decide +kernel : decode cX1_lay 16 = .ok (.return_, 1))
theorem m_X1_lay (l : Launch) (D : va_G) (cy : Nat → ClassId) (b : Nat) {l0 : Nat} {l1 : Nat} {l2 : Nat} {μ : MS} {z : MS} (hf : f_X1_lay l0 l1 l2 μ = some z) : Met l yX1_lay (.code yX1_lay cX1_lay 3 none :: GW) rmX1_lay (Pw D cy b [.ref (b + l0), .ref (b + l1), .ref (b + l2)] μ) (Qw D cy b (none) (z)) rmX1_lay.cells rmX1_lay.slots (fun q => b ≤ q) :=
  met_of (by decide) (Nat.le_of_ble_eq_true rfl) (fun X hB _ => (t_X1_lay_0 hB hf ⟨rfl, rfl⟩))
-- PulseRemote$Collision.takeMark()V
set_option maxHeartbeats 4000000 in
set_option maxRecDepth 100000 in
theorem t_X1_takeMark_139 {X : BX} {D : va_G} {cy : Nat → ClassId} {b : Nat} {r : Option Value} {μ' : MS} (hB : BB X D cy b yX1_takeMark cX1_takeMark 3 none rmX1_takeMark) {l0 : Nat} {l2 : Int32} {μ : MS} {z : MS} (hf : f_X1_takeMark_139 l0 l2 μ = some z) (hk : (fun z : MS => r = none ∧ μ' = z) z) : WW X D cy b r μ' 3 0 0 139 [(0, .ref (b + l0)), (2, .int l2)] [] μ := by
  unfold f_X1_takeMark_139 at hf
  refine r_iload_n hB 1 rfl (by decide +kernel : decode cX1_takeMark 139 = .ok (.iload_n 2, 1)) rfl ?_
  refine r_if_eq hB (tgt := 203) (by decide +kernel : decode cX1_takeMark 140 = .ok (.ifCond .eq 63, 3)) (by decide) hf (fun _ hf => ?_) (fun _ hf => ?_)
  · obtain rfl := Option.some.inj hf
    obtain ⟨rfl, rfl⟩ := hk
    exact r_vret hB (by decide +kernel : decode cX1_takeMark 203 = .ok (.return_, 1))
  · refine r_aload_n hB 0 rfl (by decide +kernel : decode cX1_takeMark 143 = .ok (.aload_n 0, 1)) rfl ?_
    refine r_aload_n hB 0 rfl (by decide +kernel : decode cX1_takeMark 144 = .ok (.aload_n 0, 1)) rfl ?_
    refine r_gI hB cf1 5 (by decide) (own := "PulseRemote$Collision") rfl (Or.inl k_439) (by decide +kernel) (by decide +kernel : decode cX1_takeMark 145 = .ok (.getfield 35, 3)) hf (fun x145 hf => ?_)
    refine r_pI hB cf1 7 (by decide) (own := "PulseRemote$Collision") rfl (Or.inl k_441) (Or.inl rfl) rfl (by decide +kernel : decode cX1_takeMark 148 = .ok (.putfield 51, 3)) hf (fun m148 hf => ?_)
    refine r_aload_n hB 0 rfl (by decide +kernel : decode cX1_takeMark 151 = .ok (.aload_n 0, 1)) rfl ?_
    refine r_aload_n hB 0 rfl (by decide +kernel : decode cX1_takeMark 152 = .ok (.aload_n 0, 1)) rfl ?_
    refine r_gI hB cf1 7 (by decide) (own := "PulseRemote$Collision") rfl (Or.inl k_441) (by decide +kernel) (by decide +kernel : decode cX1_takeMark 153 = .ok (.getfield 51, 3)) hf (fun x153 hf => ?_)
    refine r_aload_n hB 0 rfl (by decide +kernel : decode cX1_takeMark 156 = .ok (.aload_n 0, 1)) rfl ?_
    refine r_gR hB cf1 1 (by decide) (own := "PulseRemote$Collision") rfl (Or.inl k_435) (by decide +kernel) (by decide +kernel : decode cX1_takeMark 157 = .ok (.getfield 18, 3)) hf (fun x157 hf => ?_)
    refine r_aload_n hB 0 rfl (by decide +kernel : decode cX1_takeMark 160 = .ok (.aload_n 0, 1)) rfl ?_
    refine r_gI hB cf1 4 (by decide) (own := "PulseRemote$Collision") rfl (Or.inl k_438) (by decide +kernel) (by decide +kernel : decode cX1_takeMark 161 = .ok (.getfield 32, 3)) hf (fun x161 hf => ?_)
    refine r_cVi hB [.int x161] [.int x153, .ref (b + l0)] cf10 (own := "PulseRemote$Collision") rfl cmX10_at imX10_at (Or.inl k_914) (by decide) rfl rfl rfl (Nat.le_of_ble_eq_true rfl) (by decide +kernel : decode cX1_takeMark 164 = .ok (.invokevirtual 54, 3)) (fun z hz => m_X10_at _ _ _ _ hz) rfl hf (fun z164 hf => ?_)
    refine r_iadd hB (by decide +kernel : decode cX1_takeMark 167 = .ok (.iadd, 1)) ?_
    refine r_pI hB cf1 8 (by decide) (own := "PulseRemote$Collision") rfl (Or.inl k_442) (Or.inl rfl) rfl (by decide +kernel : decode cX1_takeMark 168 = .ok (.putfield 58, 3)) hf (fun m168 hf => ?_)
    refine r_aload_n hB 0 rfl (by decide +kernel : decode cX1_takeMark 171 = .ok (.aload_n 0, 1)) rfl ?_
    refine r_aload_n hB 0 rfl (by decide +kernel : decode cX1_takeMark 172 = .ok (.aload_n 0, 1)) rfl ?_
    refine r_gI hB cf1 8 (by decide) (own := "PulseRemote$Collision") rfl (Or.inl k_442) (by decide +kernel) (by decide +kernel : decode cX1_takeMark 173 = .ok (.getfield 58, 3)) hf (fun x173 hf => ?_)
    refine r_aload_n hB 0 rfl (by decide +kernel : decode cX1_takeMark 176 = .ok (.aload_n 0, 1)) rfl ?_
    refine r_gR hB cf1 1 (by decide) (own := "PulseRemote$Collision") rfl (Or.inl k_435) (by decide +kernel) (by decide +kernel : decode cX1_takeMark 177 = .ok (.getfield 18, 3)) hf (fun x177 hf => ?_)
    refine r_aload_n hB 0 rfl (by decide +kernel : decode cX1_takeMark 180 = .ok (.aload_n 0, 1)) rfl ?_
    refine r_gI hB cf1 4 (by decide) (own := "PulseRemote$Collision") rfl (Or.inl k_438) (by decide +kernel) (by decide +kernel : decode cX1_takeMark 181 = .ok (.getfield 32, 3)) hf (fun x181 hf => ?_)
    refine r_iconst hB (v := 1) (by decide +kernel : decode cX1_takeMark 184 = .ok (.iconst 1, 1)) (by decide +kernel) ?_
    refine r_iadd hB (by decide +kernel : decode cX1_takeMark 185 = .ok (.iadd, 1)) ?_
    refine r_cVi hB [.int (x181 + 1)] [.int x173, .ref (b + l0)] cf10 (own := "PulseRemote$Collision") rfl cmX10_at imX10_at (Or.inl k_914) (by decide) rfl rfl rfl (Nat.le_of_ble_eq_true rfl) (by decide +kernel : decode cX1_takeMark 186 = .ok (.invokevirtual 54, 3)) (fun z hz => m_X10_at _ _ _ _ hz) rfl hf (fun z186 hf => ?_)
    refine r_iadd hB (by decide +kernel : decode cX1_takeMark 189 = .ok (.iadd, 1)) ?_
    refine r_pI hB cf1 5 (by decide) (own := "PulseRemote$Collision") rfl (Or.inl k_439) (Or.inl rfl) rfl (by decide +kernel : decode cX1_takeMark 190 = .ok (.putfield 35, 3)) hf (fun m190 hf => ?_)
    refine r_aload_n hB 0 rfl (by decide +kernel : decode cX1_takeMark 193 = .ok (.aload_n 0, 1)) rfl ?_
    refine r_dup hB (by decide +kernel : decode cX1_takeMark 194 = .ok (.dup, 1)) rfl ?_
    refine r_gI hB cf1 4 (by decide) (own := "PulseRemote$Collision") rfl (Or.inl k_438) (by decide +kernel) (by decide +kernel : decode cX1_takeMark 195 = .ok (.getfield 32, 3)) hf (fun x195 hf => ?_)
    refine r_iconst hB (v := 2) (by decide +kernel : decode cX1_takeMark 198 = .ok (.iconst 2, 1)) (by decide +kernel) ?_
    refine r_iadd hB (by decide +kernel : decode cX1_takeMark 199 = .ok (.iadd, 1)) ?_
    refine r_pI hB cf1 4 (by decide) (own := "PulseRemote$Collision") rfl (Or.inl k_438) (Or.inl rfl) rfl (by decide +kernel : decode cX1_takeMark 200 = .ok (.putfield 32, 3)) hf (fun m200 hf => ?_)
    obtain rfl := Option.some.inj hf
    obtain ⟨rfl, rfl⟩ := hk
    exact r_vret hB (by decide +kernel : decode cX1_takeMark 203 = .ok (.return_, 1))
set_option maxHeartbeats 4000000 in
set_option maxRecDepth 100000 in
theorem t_X1_takeMark_76 {X : BX} {D : va_G} {cy : Nat → ClassId} {b : Nat} {r : Option Value} {μ' : MS} (hB : BB X D cy b yX1_takeMark cX1_takeMark 3 none rmX1_takeMark) {l0 : Nat} {μ : MS} {z : MS} (hf : f_X1_takeMark_76 l0 μ = some z) (hk : (fun z : MS => r = none ∧ μ' = z) z) : WW X D cy b r μ' 3 0 0 76 [(0, .ref (b + l0))] [] μ := by
  unfold f_X1_takeMark_76 at hf
  refine r_aload_n hB 0 rfl (by decide +kernel : decode cX1_takeMark 76 = .ok (.aload_n 0, 1)) rfl ?_
  refine r_aload_n hB 0 rfl (by decide +kernel : decode cX1_takeMark 77 = .ok (.aload_n 0, 1)) rfl ?_
  refine r_gI hB cf1 3 (by decide) (own := "PulseRemote$Collision") rfl (Or.inl k_437) (by decide +kernel) (by decide +kernel : decode cX1_takeMark 78 = .ok (.getfield 29, 3)) hf (fun x78 hf => ?_)
  refine r_pI hB cf1 7 (by decide) (own := "PulseRemote$Collision") rfl (Or.inl k_441) (Or.inl rfl) rfl (by decide +kernel : decode cX1_takeMark 81 = .ok (.putfield 51, 3)) hf (fun m81 hf => ?_)
  refine r_aload_n hB 0 rfl (by decide +kernel : decode cX1_takeMark 84 = .ok (.aload_n 0, 1)) rfl ?_
  refine r_aload_n hB 0 rfl (by decide +kernel : decode cX1_takeMark 85 = .ok (.aload_n 0, 1)) rfl ?_
  refine r_gI hB cf1 7 (by decide) (own := "PulseRemote$Collision") rfl (Or.inl k_441) (by decide +kernel) (by decide +kernel : decode cX1_takeMark 86 = .ok (.getfield 51, 3)) hf (fun x86 hf => ?_)
  refine r_aload_n hB 0 rfl (by decide +kernel : decode cX1_takeMark 89 = .ok (.aload_n 0, 1)) rfl ?_
  refine r_gR hB cf1 0 (by decide) (own := "PulseRemote$Collision") rfl (Or.inl k_434) (by decide +kernel) (by decide +kernel : decode cX1_takeMark 90 = .ok (.getfield 12, 3)) hf (fun x90 hf => ?_)
  refine r_aload_n hB 0 rfl (by decide +kernel : decode cX1_takeMark 93 = .ok (.aload_n 0, 1)) rfl ?_
  refine r_gI hB cf1 2 (by decide) (own := "PulseRemote$Collision") rfl (Or.inl k_436) (by decide +kernel) (by decide +kernel : decode cX1_takeMark 94 = .ok (.getfield 25, 3)) hf (fun x94 hf => ?_)
  refine r_cVi hB [.int x94] [.int x86, .ref (b + l0)] cf10 (own := "PulseRemote$Collision") rfl cmX10_at imX10_at (Or.inl k_914) (by decide) rfl rfl rfl (Nat.le_of_ble_eq_true rfl) (by decide +kernel : decode cX1_takeMark 97 = .ok (.invokevirtual 54, 3)) (fun z hz => m_X10_at _ _ _ _ hz) rfl hf (fun z97 hf => ?_)
  refine r_iadd hB (by decide +kernel : decode cX1_takeMark 100 = .ok (.iadd, 1)) ?_
  refine r_pI hB cf1 8 (by decide) (own := "PulseRemote$Collision") rfl (Or.inl k_442) (Or.inl rfl) rfl (by decide +kernel : decode cX1_takeMark 101 = .ok (.putfield 58, 3)) hf (fun m101 hf => ?_)
  refine r_aload_n hB 0 rfl (by decide +kernel : decode cX1_takeMark 104 = .ok (.aload_n 0, 1)) rfl ?_
  refine r_aload_n hB 0 rfl (by decide +kernel : decode cX1_takeMark 105 = .ok (.aload_n 0, 1)) rfl ?_
  refine r_gI hB cf1 8 (by decide) (own := "PulseRemote$Collision") rfl (Or.inl k_442) (by decide +kernel) (by decide +kernel : decode cX1_takeMark 106 = .ok (.getfield 58, 3)) hf (fun x106 hf => ?_)
  refine r_aload_n hB 0 rfl (by decide +kernel : decode cX1_takeMark 109 = .ok (.aload_n 0, 1)) rfl ?_
  refine r_gR hB cf1 0 (by decide) (own := "PulseRemote$Collision") rfl (Or.inl k_434) (by decide +kernel) (by decide +kernel : decode cX1_takeMark 110 = .ok (.getfield 12, 3)) hf (fun x110 hf => ?_)
  refine r_aload_n hB 0 rfl (by decide +kernel : decode cX1_takeMark 113 = .ok (.aload_n 0, 1)) rfl ?_
  refine r_gI hB cf1 2 (by decide) (own := "PulseRemote$Collision") rfl (Or.inl k_436) (by decide +kernel) (by decide +kernel : decode cX1_takeMark 114 = .ok (.getfield 25, 3)) hf (fun x114 hf => ?_)
  refine r_iconst hB (v := 1) (by decide +kernel : decode cX1_takeMark 117 = .ok (.iconst 1, 1)) (by decide +kernel) ?_
  refine r_iadd hB (by decide +kernel : decode cX1_takeMark 118 = .ok (.iadd, 1)) ?_
  refine r_cVi hB [.int (x114 + 1)] [.int x106, .ref (b + l0)] cf10 (own := "PulseRemote$Collision") rfl cmX10_at imX10_at (Or.inl k_914) (by decide) rfl rfl rfl (Nat.le_of_ble_eq_true rfl) (by decide +kernel : decode cX1_takeMark 119 = .ok (.invokevirtual 54, 3)) (fun z hz => m_X10_at _ _ _ _ hz) rfl hf (fun z119 hf => ?_)
  refine r_iadd hB (by decide +kernel : decode cX1_takeMark 122 = .ok (.iadd, 1)) ?_
  refine r_pI hB cf1 3 (by decide) (own := "PulseRemote$Collision") rfl (Or.inl k_437) (Or.inl rfl) rfl (by decide +kernel : decode cX1_takeMark 123 = .ok (.putfield 29, 3)) hf (fun m123 hf => ?_)
  refine r_aload_n hB 0 rfl (by decide +kernel : decode cX1_takeMark 126 = .ok (.aload_n 0, 1)) rfl ?_
  refine r_dup hB (by decide +kernel : decode cX1_takeMark 127 = .ok (.dup, 1)) rfl ?_
  refine r_gI hB cf1 2 (by decide) (own := "PulseRemote$Collision") rfl (Or.inl k_436) (by decide +kernel) (by decide +kernel : decode cX1_takeMark 128 = .ok (.getfield 25, 3)) hf (fun x128 hf => ?_)
  refine r_iconst hB (v := 2) (by decide +kernel : decode cX1_takeMark 131 = .ok (.iconst 2, 1)) (by decide +kernel) ?_
  refine r_iadd hB (by decide +kernel : decode cX1_takeMark 132 = .ok (.iadd, 1)) ?_
  refine r_pI hB cf1 2 (by decide) (own := "PulseRemote$Collision") rfl (Or.inl k_436) (Or.inl rfl) rfl (by decide +kernel : decode cX1_takeMark 133 = .ok (.putfield 25, 3)) hf (fun m133 hf => ?_)
  refine r_goto hB (tgt := 203) (by decide +kernel : decode cX1_takeMark 136 = .ok (.goto 67, 3)) (by decide) ?_
  obtain rfl := Option.some.inj hf
  obtain ⟨rfl, rfl⟩ := hk
  exact r_vret hB (by decide +kernel : decode cX1_takeMark 203 = .ok (.return_, 1))
set_option maxHeartbeats 4000000 in
set_option maxRecDepth 100000 in
theorem t_X1_takeMark_54 {X : BX} {D : va_G} {cy : Nat → ClassId} {b : Nat} {r : Option Value} {μ' : MS} (hB : BB X D cy b yX1_takeMark cX1_takeMark 3 none rmX1_takeMark) {l0 : Nat} {l1 : Int32} {l2 : Int32} {s0 : Int32} {s1 : Nat} {μ : MS} {z : MS} (hf : f_X1_takeMark_54 l0 l1 l2 s0 s1 μ = some z) (hk : (fun z : MS => r = none ∧ μ' = z) z) : WW X D cy b r μ' 3 0 0 54 [(0, .ref (b + l0)), (1, .int l1), (2, .int l2)] [.int s0, .ref (b + s1)] μ := by
  unfold f_X1_takeMark_54 at hf
  refine r_pZ hB cf1 6 (by decide) (own := "PulseRemote$Collision") rfl (Or.inl k_440) (Or.inl rfl) rfl (by decide +kernel : decode cX1_takeMark 54 = .ok (.putfield 47, 3)) hf (fun m54 hf => ?_)
  refine r_iload_n hB 1 rfl (by decide +kernel : decode cX1_takeMark 57 = .ok (.iload_n 1, 1)) rfl ?_
  refine r_if_eq hB (tgt := 139) (by decide +kernel : decode cX1_takeMark 58 = .ok (.ifCond .eq 81, 3)) (by decide) hf (fun _ hf => ?_) (fun _ hf => ?_)
  · exact WW.sub [0, 2] rfl (t_X1_takeMark_139 hB hf hk)
  · refine r_iload_n hB 2 rfl (by decide +kernel : decode cX1_takeMark 61 = .ok (.iload_n 2, 1)) rfl ?_
    refine r_if_eq hB (tgt := 76) (by decide +kernel : decode cX1_takeMark 62 = .ok (.ifCond .eq 14, 3)) (by decide) hf (fun _ hf => ?_) (fun _ hf => ?_)
    · exact WW.sub [0] rfl (t_X1_takeMark_76 hB hf hk)
    · refine r_aload_n hB 0 rfl (by decide +kernel : decode cX1_takeMark 65 = .ok (.aload_n 0, 1)) rfl ?_
      refine r_gI hB cf1 3 (by decide) (own := "PulseRemote$Collision") rfl (Or.inl k_437) (by decide +kernel) (by decide +kernel : decode cX1_takeMark 66 = .ok (.getfield 29, 3)) hf (fun x66 hf => ?_)
      refine r_aload_n hB 0 rfl (by decide +kernel : decode cX1_takeMark 69 = .ok (.aload_n 0, 1)) rfl ?_
      refine r_gI hB cf1 5 (by decide) (own := "PulseRemote$Collision") rfl (Or.inl k_439) (by decide +kernel) (by decide +kernel : decode cX1_takeMark 70 = .ok (.getfield 35, 3)) hf (fun x70 hf => ?_)
      refine r_icmp_gt hB (tgt := 139) (by decide +kernel : decode cX1_takeMark 73 = .ok (.if_icmp .gt 66, 3)) (by decide) hf (fun _ hf => ?_) (fun _ hf => ?_)
      · exact WW.sub [0, 2] rfl (t_X1_takeMark_139 hB hf hk)
      · exact WW.sub [0] rfl (t_X1_takeMark_76 hB hf hk)
set_option maxHeartbeats 4000000 in
set_option maxRecDepth 100000 in
theorem t_X1_takeMark_49 {X : BX} {D : va_G} {cy : Nat → ClassId} {b : Nat} {r : Option Value} {μ' : MS} (hB : BB X D cy b yX1_takeMark cX1_takeMark 3 none rmX1_takeMark) {l0 : Nat} {l1 : Int32} {l2 : Int32} {s0 : Nat} {μ : MS} {z : MS} (hf : f_X1_takeMark_49 l0 l1 l2 s0 μ = some z) (hk : (fun z : MS => r = none ∧ μ' = z) z) : WW X D cy b r μ' 3 0 0 49 [(0, .ref (b + l0)), (1, .int l1), (2, .int l2)] [.ref (b + s0)] μ := by
  unfold f_X1_takeMark_49 at hf
  refine r_iconst hB (v := 1) (by decide +kernel : decode cX1_takeMark 49 = .ok (.iconst 1, 1)) (by decide +kernel) ?_
  refine r_goto hB (tgt := 54) (by decide +kernel : decode cX1_takeMark 50 = .ok (.goto 4, 3)) (by decide) ?_
  exact WW.sub [0, 1, 2] rfl (t_X1_takeMark_54 hB hf hk)
set_option maxHeartbeats 4000000 in
set_option maxRecDepth 100000 in
theorem t_X1_takeMark_39 {X : BX} {D : va_G} {cy : Nat → ClassId} {b : Nat} {r : Option Value} {μ' : MS} (hB : BB X D cy b yX1_takeMark cX1_takeMark 3 none rmX1_takeMark) {l0 : Nat} {l1 : Int32} {s0 : Int32} {μ : MS} {z : MS} (hf : f_X1_takeMark_39 l0 l1 s0 μ = some z) (hk : (fun z : MS => r = none ∧ μ' = z) z) : WW X D cy b r μ' 3 0 0 39 [(0, .ref (b + l0)), (1, .int l1)] [.int s0] μ := by
  unfold f_X1_takeMark_39 at hf
  refine r_istore_n hB (by decide +kernel : decode cX1_takeMark 39 = .ok (.istore_n 2, 1)) rfl (by decide) rfl ?_
  refine ww_lv (lv' := [(2, .int s0), (0, .ref (b + l0)), (1, .int l1)]) rfl ?_
  refine r_aload_n hB 1 rfl (by decide +kernel : decode cX1_takeMark 40 = .ok (.aload_n 0, 1)) rfl ?_
  refine r_iload_n hB 2 rfl (by decide +kernel : decode cX1_takeMark 41 = .ok (.iload_n 1, 1)) rfl ?_
  refine r_if_ne hB (tgt := 49) (by decide +kernel : decode cX1_takeMark 42 = .ok (.ifCond .ne 7, 3)) (by decide) hf (fun _ hf => ?_) (fun _ hf => ?_)
  · refine r_iload_n hB 0 rfl (by decide +kernel : decode cX1_takeMark 45 = .ok (.iload_n 2, 1)) rfl ?_
    refine r_if_eq hB (tgt := 53) (by decide +kernel : decode cX1_takeMark 46 = .ok (.ifCond .eq 7, 3)) (by decide) hf (fun _ hf => ?_) (fun _ hf => ?_)
    · refine r_iconst hB (v := 0) (by decide +kernel : decode cX1_takeMark 53 = .ok (.iconst 0, 1)) (by decide +kernel) ?_
      exact WW.sub [1, 2, 0] rfl (t_X1_takeMark_54 hB hf hk)
    · exact WW.sub [1, 2, 0] rfl (t_X1_takeMark_49 hB hf hk)
  · exact WW.sub [1, 2, 0] rfl (t_X1_takeMark_49 hB hf hk)
set_option maxHeartbeats 4000000 in
set_option maxRecDepth 100000 in
theorem t_X1_takeMark_19 {X : BX} {D : va_G} {cy : Nat → ClassId} {b : Nat} {r : Option Value} {μ' : MS} (hB : BB X D cy b yX1_takeMark cX1_takeMark 3 none rmX1_takeMark) {l0 : Nat} {s0 : Int32} {μ : MS} {z : MS} (hf : f_X1_takeMark_19 l0 s0 μ = some z) (hk : (fun z : MS => r = none ∧ μ' = z) z) : WW X D cy b r μ' 3 0 0 19 [(0, .ref (b + l0))] [.int s0] μ := by
  unfold f_X1_takeMark_19 at hf
  refine r_istore_n hB (by decide +kernel : decode cX1_takeMark 19 = .ok (.istore_n 1, 1)) rfl (by decide) rfl ?_
  refine ww_lv (lv' := [(1, .int s0), (0, .ref (b + l0))]) rfl ?_
  refine r_aload_n hB 1 rfl (by decide +kernel : decode cX1_takeMark 20 = .ok (.aload_n 0, 1)) rfl ?_
  refine r_gI hB cf1 4 (by decide) (own := "PulseRemote$Collision") rfl (Or.inl k_438) (by decide +kernel) (by decide +kernel : decode cX1_takeMark 21 = .ok (.getfield 32, 3)) hf (fun x21 hf => ?_)
  refine r_aload_n hB 1 rfl (by decide +kernel : decode cX1_takeMark 24 = .ok (.aload_n 0, 1)) rfl ?_
  refine r_gR hB cf1 1 (by decide) (own := "PulseRemote$Collision") rfl (Or.inl k_435) (by decide +kernel) (by decide +kernel : decode cX1_takeMark 25 = .ok (.getfield 18, 3)) hf (fun x25 hf => ?_)
  refine r_gI hB cf10 1 (by decide) (own := "PulseRemote$Collision") rfl (Or.inr ⟨_, k_202⟩) (by decide +kernel) (by decide +kernel : decode cX1_takeMark 28 = .ok (.getfield 44, 3)) hf (fun x28 hf => ?_)
  refine r_icmp_ge hB (tgt := 38) (by decide +kernel : decode cX1_takeMark 31 = .ok (.if_icmp .ge 7, 3)) (by decide) hf (fun _ hf => ?_) (fun _ hf => ?_)
  · refine r_iconst hB (v := 0) (by decide +kernel : decode cX1_takeMark 38 = .ok (.iconst 0, 1)) (by decide +kernel) ?_
    exact WW.sub [1, 0] rfl (t_X1_takeMark_39 hB hf hk)
  · refine r_iconst hB (v := 1) (by decide +kernel : decode cX1_takeMark 34 = .ok (.iconst 1, 1)) (by decide +kernel) ?_
    refine r_goto hB (tgt := 39) (by decide +kernel : decode cX1_takeMark 35 = .ok (.goto 4, 3)) (by decide) ?_
    exact WW.sub [1, 0] rfl (t_X1_takeMark_39 hB hf hk)
set_option maxHeartbeats 4000000 in
set_option maxRecDepth 100000 in
theorem t_X1_takeMark_0 {X : BX} {D : va_G} {cy : Nat → ClassId} {b : Nat} {r : Option Value} {μ' : MS} (hB : BB X D cy b yX1_takeMark cX1_takeMark 3 none rmX1_takeMark) {l0 : Nat} {μ : MS} {z : MS} (hf : f_X1_takeMark l0 μ = some z) (hk : (fun z : MS => r = none ∧ μ' = z) z) : WW X D cy b r μ' 3 0 0 0 [(0, .ref (b + l0))] [] μ := by
  unfold f_X1_takeMark at hf
  refine r_aload_n hB 0 rfl (by decide +kernel : decode cX1_takeMark 0 = .ok (.aload_n 0, 1)) rfl ?_
  refine r_gI hB cf1 2 (by decide) (own := "PulseRemote$Collision") rfl (Or.inl k_436) (by decide +kernel) (by decide +kernel : decode cX1_takeMark 1 = .ok (.getfield 25, 3)) hf (fun x1 hf => ?_)
  refine r_aload_n hB 0 rfl (by decide +kernel : decode cX1_takeMark 4 = .ok (.aload_n 0, 1)) rfl ?_
  refine r_gR hB cf1 0 (by decide) (own := "PulseRemote$Collision") rfl (Or.inl k_434) (by decide +kernel) (by decide +kernel : decode cX1_takeMark 5 = .ok (.getfield 12, 3)) hf (fun x5 hf => ?_)
  refine r_gI hB cf10 1 (by decide) (own := "PulseRemote$Collision") rfl (Or.inr ⟨_, k_202⟩) (by decide +kernel) (by decide +kernel : decode cX1_takeMark 8 = .ok (.getfield 44, 3)) hf (fun x8 hf => ?_)
  refine r_icmp_ge hB (tgt := 18) (by decide +kernel : decode cX1_takeMark 11 = .ok (.if_icmp .ge 7, 3)) (by decide) hf (fun _ hf => ?_) (fun _ hf => ?_)
  · refine r_iconst hB (v := 0) (by decide +kernel : decode cX1_takeMark 18 = .ok (.iconst 0, 1)) (by decide +kernel) ?_
    exact WW.sub [0] rfl (t_X1_takeMark_19 hB hf hk)
  · refine r_iconst hB (v := 1) (by decide +kernel : decode cX1_takeMark 14 = .ok (.iconst 1, 1)) (by decide +kernel) ?_
    refine r_goto hB (tgt := 19) (by decide +kernel : decode cX1_takeMark 15 = .ok (.goto 4, 3)) (by decide) ?_
    exact WW.sub [0] rfl (t_X1_takeMark_19 hB hf hk)
theorem m_X1_takeMark (l : Launch) (D : va_G) (cy : Nat → ClassId) (b : Nat) {l0 : Nat} {μ : MS} {z : MS} (hf : f_X1_takeMark l0 μ = some z) : Met l yX1_takeMark (.code yX1_takeMark cX1_takeMark 3 none :: GW) rmX1_takeMark (Pw D cy b [.ref (b + l0)] μ) (Qw D cy b (none) (z)) rmX1_takeMark.cells rmX1_takeMark.slots (fun q => b ≤ q) :=
  met_of (by decide) (Nat.le_of_ble_eq_true rfl) (fun X hB _ => (t_X1_takeMark_0 hB hf ⟨rfl, rfl⟩))
-- PulseRemote$Collision.begin(I)V
set_option maxHeartbeats 4000000 in
set_option maxRecDepth 100000 in
theorem t_X1_begin_0 {X : BX} {D : va_G} {cy : Nat → ClassId} {b : Nat} {r : Option Value} {μ' : MS} (hB : BB X D cy b yX1_begin cX1_begin 2 none rmX1_begin) {l0 : Nat} {l1 : Int32} {μ : MS} {z : MS} (hf : f_X1_begin l0 l1 μ = some z) (hk : (fun z : MS => r = none ∧ μ' = z) z) : WW X D cy b r μ' 2 0 0 0 [(0, .ref (b + l0)), (1, .int l1)] [] μ := by
  unfold f_X1_begin at hf
  refine r_aload_n hB 0 rfl (by decide +kernel : decode cX1_begin 0 = .ok (.aload_n 0, 1)) rfl ?_
  refine r_iconst hB (v := 0) (by decide +kernel : decode cX1_begin 1 = .ok (.iconst 0, 1)) (by decide +kernel) ?_
  refine r_pI hB cf1 2 (by decide) (own := "PulseRemote$Collision") rfl (Or.inl k_436) (Or.inl rfl) rfl (by decide +kernel : decode cX1_begin 2 = .ok (.putfield 25, 3)) hf (fun m2 hf => ?_)
  refine r_aload_n hB 0 rfl (by decide +kernel : decode cX1_begin 5 = .ok (.aload_n 0, 1)) rfl ?_
  refine r_iconst hB (v := 0) (by decide +kernel : decode cX1_begin 6 = .ok (.iconst 0, 1)) (by decide +kernel) ?_
  refine r_pI hB cf1 3 (by decide) (own := "PulseRemote$Collision") rfl (Or.inl k_437) (Or.inl rfl) rfl (by decide +kernel : decode cX1_begin 7 = .ok (.putfield 29, 3)) hf (fun m7 hf => ?_)
  refine r_aload_n hB 0 rfl (by decide +kernel : decode cX1_begin 10 = .ok (.aload_n 0, 1)) rfl ?_
  refine r_iconst hB (v := 0) (by decide +kernel : decode cX1_begin 11 = .ok (.iconst 0, 1)) (by decide +kernel) ?_
  refine r_pI hB cf1 4 (by decide) (own := "PulseRemote$Collision") rfl (Or.inl k_438) (Or.inl rfl) rfl (by decide +kernel : decode cX1_begin 12 = .ok (.putfield 32, 3)) hf (fun m12 hf => ?_)
  refine r_aload_n hB 0 rfl (by decide +kernel : decode cX1_begin 15 = .ok (.aload_n 0, 1)) rfl ?_
  refine r_iload_n hB 1 rfl (by decide +kernel : decode cX1_begin 16 = .ok (.iload_n 1, 1)) rfl ?_
  refine r_pI hB cf1 5 (by decide) (own := "PulseRemote$Collision") rfl (Or.inl k_439) (Or.inl rfl) rfl (by decide +kernel : decode cX1_begin 17 = .ok (.putfield 35, 3)) hf (fun m17 hf => ?_)
  refine r_aload_n hB 0 rfl (by decide +kernel : decode cX1_begin 20 = .ok (.aload_n 0, 1)) rfl ?_
  refine r_iconst hB (v := 0) (by decide +kernel : decode cX1_begin 21 = .ok (.iconst 0, 1)) (by decide +kernel) ?_
  refine r_pI hB cf1 9 (by decide) (own := "PulseRemote$Collision") rfl (Or.inl k_443) (Or.inl rfl) rfl (by decide +kernel : decode cX1_begin 22 = .ok (.putfield 38, 3)) hf (fun m22 hf => ?_)
  refine r_aload_n hB 0 rfl (by decide +kernel : decode cX1_begin 25 = .ok (.aload_n 0, 1)) rfl ?_
  refine r_cVv hB [] [] cf1 (own := "PulseRemote$Collision") rfl cmX1_takeMark imX1_takeMark (Or.inl k_910) (by decide) rfl rfl rfl (Nat.le_of_ble_eq_true rfl) (by decide +kernel : decode cX1_begin 26 = .ok (.invokevirtual 41, 3)) (fun z hz => m_X1_takeMark _ _ _ _ hz) rfl hf (fun z26 hf => ?_)
  obtain rfl := Option.some.inj hf
  obtain ⟨rfl, rfl⟩ := hk
  exact r_vret hB (by decide +kernel : decode cX1_begin 29 = .ok (.return_, 1))
theorem m_X1_begin (l : Launch) (D : va_G) (cy : Nat → ClassId) (b : Nat) {l0 : Nat} {l1 : Int32} {μ : MS} {z : MS} (hf : f_X1_begin l0 l1 μ = some z) : Met l yX1_begin (.code yX1_begin cX1_begin 2 none :: GW) rmX1_begin (Pw D cy b [.ref (b + l0), .int l1] μ) (Qw D cy b (none) (z)) rmX1_begin.cells rmX1_begin.slots (fun q => b ≤ q) :=
  met_of (by decide) (Nat.le_of_ble_eq_true rfl) (fun X hB _ => (t_X1_begin_0 hB hf ⟨rfl, rfl⟩))
-- PulseRemote$Collision.nextDuration()I
set_option maxHeartbeats 4000000 in
set_option maxRecDepth 100000 in
theorem t_X1_nextDuration_103 {X : BX} {D : va_G} {cy : Nat → ClassId} {b : Nat} {r : Option Value} {μ' : MS} (hB : BB X D cy b yX1_nextDuration cX1_nextDuration 4 (some .int) rmX1_nextDuration) {l1 : Int32} {l2 : Int32} {s0 : Int32} {s1 : Nat} {μ : MS} {z : (Int32 × MS)} (hf : f_X1_nextDuration_103 l1 l2 s0 s1 μ = some z) (hk : (fun z : Int32 × MS => r = some (.int z.1) ∧ μ' = z.2) z) : WW X D cy b r μ' 4 0 0 103 [(1, .int l1), (2, .int l2)] [.int s0, .ref (b + s1)] μ := by
  unfold f_X1_nextDuration_103 at hf
  refine r_pI hB cf1 9 (by decide) (own := "PulseRemote$Collision") rfl (Or.inl k_443) (Or.inl rfl) rfl (by decide +kernel : decode cX1_nextDuration 103 = .ok (.putfield 38, 3)) hf (fun m103 hf => ?_)
  refine r_iload_n hB 1 rfl (by decide +kernel : decode cX1_nextDuration 106 = .ok (.iload_n 2, 1)) rfl ?_
  refine r_iload_n hB 0 rfl (by decide +kernel : decode cX1_nextDuration 107 = .ok (.iload_n 1, 1)) rfl ?_
  refine r_isub hB (by decide +kernel : decode cX1_nextDuration 108 = .ok (.isub, 1)) ?_
  obtain rfl := Option.some.inj hf
  obtain ⟨rfl, rfl⟩ := hk
  exact r_iret hB (by decide +kernel : decode cX1_nextDuration 109 = .ok (.ireturn, 1))
set_option maxHeartbeats 4000000 in
set_option maxRecDepth 100000 in
theorem t_X1_nextDuration_85 {X : BX} {D : va_G} {cy : Nat → ClassId} {b : Nat} {r : Option Value} {μ' : MS} (hB : BB X D cy b yX1_nextDuration cX1_nextDuration 4 (some .int) rmX1_nextDuration) {l0 : Nat} {l1 : Int32} {l2 : Int32} {μ : MS} {z : (Int32 × MS)} (hf : f_X1_nextDuration_85 l0 l1 l2 μ = some z) (hk : (fun z : Int32 × MS => r = some (.int z.1) ∧ μ' = z.2) z) : WW X D cy b r μ' 4 0 0 85 [(0, .ref (b + l0)), (1, .int l1), (2, .int l2)] [] μ := by
  unfold f_X1_nextDuration_85 at hf
  refine r_aload_n hB 0 rfl (by decide +kernel : decode cX1_nextDuration 85 = .ok (.aload_n 0, 1)) rfl ?_
  refine r_aload_n hB 0 rfl (by decide +kernel : decode cX1_nextDuration 86 = .ok (.aload_n 0, 1)) rfl ?_
  refine r_gI hB cf1 6 (by decide) (own := "PulseRemote$Collision") rfl (Or.inl k_440) (by decide +kernel) (by decide +kernel : decode cX1_nextDuration 87 = .ok (.getfield 47, 3)) hf (fun x87 hf => ?_)
  refine r_if_eq hB (tgt := 102) (by decide +kernel : decode cX1_nextDuration 90 = .ok (.ifCond .eq 12, 3)) (by decide) hf (fun _ hf => ?_) (fun _ hf => ?_)
  · refine r_iconst hB (v := 0) (by decide +kernel : decode cX1_nextDuration 102 = .ok (.iconst 0, 1)) (by decide +kernel) ?_
    exact WW.sub [1, 2] rfl (t_X1_nextDuration_103 hB hf hk)
  · refine r_aload_n hB 0 rfl (by decide +kernel : decode cX1_nextDuration 93 = .ok (.aload_n 0, 1)) rfl ?_
    refine r_gI hB cf1 7 (by decide) (own := "PulseRemote$Collision") rfl (Or.inl k_441) (by decide +kernel) (by decide +kernel : decode cX1_nextDuration 94 = .ok (.getfield 51, 3)) hf (fun x94 hf => ?_)
    refine r_iload_n hB 2 rfl (by decide +kernel : decode cX1_nextDuration 97 = .ok (.iload_n 2, 1)) rfl ?_
    refine r_isub hB (by decide +kernel : decode cX1_nextDuration 98 = .ok (.isub, 1)) ?_
    refine r_goto hB (tgt := 103) (by decide +kernel : decode cX1_nextDuration 99 = .ok (.goto 4, 3)) (by decide) ?_
    exact WW.sub [1, 2] rfl (t_X1_nextDuration_103 hB hf hk)
set_option maxHeartbeats 4000000 in
set_option maxRecDepth 100000 in
theorem t_X1_nextDuration_44_b {X : BX} {D : va_G} {cy : Nat → ClassId} {b : Nat} {r : Option Value} {μ' : MS} (hB : BB X D cy b yX1_nextDuration cX1_nextDuration 4 (some .int) rmX1_nextDuration) {l0 : Nat} {l1 : Int32} {l2 : Int32} {l3 : Int32} {μ : MS} {z : ((Nat × Int32 × Int32 × Int32 × MS) ⊕ (Int32 × MS))} (hf : f_X1_nextDuration_44_b l0 l1 l2 l3 μ = some z) (hk : (Sum.elim (fun s : Nat × Int32 × Int32 × Int32 × MS => WW X D cy b r μ' 4 0 0 44 [(0, .ref (b + s.1)), (1, .int s.2.1), (2, .int s.2.2.1), (3, .int s.2.2.2.1)] [] s.2.2.2.2) (fun z : Int32 × MS => r = some (.int z.1) ∧ μ' = z.2)) z) : WW X D cy b r μ' 4 0 0 44 [(0, .ref (b + l0)), (1, .int l1), (2, .int l2), (3, .int l3)] [] μ := by
  unfold f_X1_nextDuration_44_b at hf
  refine r_iload_n hB 3 rfl (by decide +kernel : decode cX1_nextDuration 44 = .ok (.iload_n 3, 1)) rfl ?_
  refine r_sipush hB (v := 200) (by decide +kernel : decode cX1_nextDuration 45 = .ok (.sipush 200, 3)) (by decide +kernel) ?_
  refine r_icmp_ge hB (tgt := 85) (by decide +kernel : decode cX1_nextDuration 48 = .ok (.if_icmp .ge 37, 3)) (by decide) hf (fun _ hf => ?_) (fun _ hf => ?_)
  · obtain ⟨_, hx0, rfl⟩ := xr_inv hf
    exact WW.sub [0, 1, 2] rfl (t_X1_nextDuration_85 hB hx0 hk)
  · refine r_aload_n hB 0 rfl (by decide +kernel : decode cX1_nextDuration 51 = .ok (.aload_n 0, 1)) rfl ?_
    refine r_gI hB cf1 6 (by decide) (own := "PulseRemote$Collision") rfl (Or.inl k_440) (by decide +kernel) (by decide +kernel : decode cX1_nextDuration 52 = .ok (.getfield 47, 3)) hf (fun x52 hf => ?_)
    refine r_if_eq hB (tgt := 85) (by decide +kernel : decode cX1_nextDuration 55 = .ok (.ifCond .eq 30, 3)) (by decide) hf (fun _ hf => ?_) (fun _ hf => ?_)
    · obtain ⟨_, hx0, rfl⟩ := xr_inv hf
      exact WW.sub [0, 1, 2] rfl (t_X1_nextDuration_85 hB hx0 hk)
    · refine r_aload_n hB 0 rfl (by decide +kernel : decode cX1_nextDuration 58 = .ok (.aload_n 0, 1)) rfl ?_
      refine r_gI hB cf1 7 (by decide) (own := "PulseRemote$Collision") rfl (Or.inl k_441) (by decide +kernel) (by decide +kernel : decode cX1_nextDuration 59 = .ok (.getfield 51, 3)) hf (fun x59 hf => ?_)
      refine r_iload_n hB 2 rfl (by decide +kernel : decode cX1_nextDuration 62 = .ok (.iload_n 2, 1)) rfl ?_
      refine r_icmp_gt hB (tgt := 85) (by decide +kernel : decode cX1_nextDuration 63 = .ok (.if_icmp .gt 22, 3)) (by decide) hf (fun _ hf => ?_) (fun _ hf => ?_)
      · obtain ⟨_, hx0, rfl⟩ := xr_inv hf
        exact WW.sub [0, 1, 2] rfl (t_X1_nextDuration_85 hB hx0 hk)
      · refine r_iload_n hB 2 rfl (by decide +kernel : decode cX1_nextDuration 66 = .ok (.iload_n 2, 1)) rfl ?_
        refine r_aload_n hB 0 rfl (by decide +kernel : decode cX1_nextDuration 67 = .ok (.aload_n 0, 1)) rfl ?_
        refine r_gI hB cf1 8 (by decide) (own := "PulseRemote$Collision") rfl (Or.inl k_442) (by decide +kernel) (by decide +kernel : decode cX1_nextDuration 68 = .ok (.getfield 58, 3)) hf (fun x68 hf => ?_)
        refine r_max hB (own := "PulseRemote$Collision") rfl k_923 k_545 k_91 k_546 (by decide +kernel : decode cX1_nextDuration 71 = .ok (.invokestatic 61, 3)) (by decide) (Nat.le_of_ble_eq_true rfl) ?_
        refine r_name hf (fun v74 hf => ?_)
        refine r_istore_n hB (by decide +kernel : decode cX1_nextDuration 74 = .ok (.istore_n 2, 1)) rfl (by decide) rfl ?_
        refine ww_lv (lv' := [(2, .int v74), (0, .ref (b + l0)), (1, .int l1), (3, .int l3)]) rfl ?_
        refine r_aload_n hB 1 rfl (by decide +kernel : decode cX1_nextDuration 75 = .ok (.aload_n 0, 1)) rfl ?_
        refine r_cVv hB [] [] cf1 (own := "PulseRemote$Collision") rfl cmX1_takeMark imX1_takeMark (Or.inl k_910) (by decide) rfl rfl rfl (Nat.le_of_ble_eq_true rfl) (by decide +kernel : decode cX1_nextDuration 76 = .ok (.invokevirtual 41, 3)) (fun z hz => m_X1_takeMark _ _ _ _ hz) rfl hf (fun z76 hf => ?_)
        refine r_iincB hB 3 rfl (by decide +kernel : decode cX1_nextDuration 79 = .ok (.iinc 3 1, 3)) (w := 1) (by decide +kernel) (by decide) hf (fun v79 hf => ?_)
        refine ww_lv (lv' := [(3, .int v79), (2, .int v74), (0, .ref (b + l0)), (1, .int l1)]) rfl ?_
        refine r_goto hB (tgt := 44) (by decide +kernel : decode cX1_nextDuration 82 = .ok (.goto (-38), 3)) (by decide) ?_
        obtain rfl := Option.some.inj hf
        exact WW.sub [2, 3, 1, 0] rfl hk
set_option maxHeartbeats 4000000 in
set_option maxRecDepth 100000 in
theorem t_X1_nextDuration_44 {X : BX} {D : va_G} {cy : Nat → ClassId} {b : Nat} {r : Option Value} {μ' : MS} (hB : BB X D cy b yX1_nextDuration cX1_nextDuration 4 (some .int) rmX1_nextDuration) {l0 : Nat} {l1 : Int32} {l2 : Int32} {l3 : Int32} {μ : MS} {z : (Int32 × MS)} (hf : f_X1_nextDuration_44 l0 l1 l2 l3 μ = some z) (hk : (fun z : Int32 × MS => r = some (.int z.1) ∧ μ' = z.2) z) : WW X D cy b r μ' 4 0 0 44 [(0, .ref (b + l0)), (1, .int l1), (2, .int l2), (3, .int l3)] [] μ :=
  lp_ind (P := fun s : Nat × Int32 × Int32 × Int32 × MS => WW X D cy b r μ' 4 0 0 44 [(0, .ref (b + s.1)), (1, .int s.2.1), (2, .int s.2.2.1), (3, .int s.2.2.2.1)] [] s.2.2.2.2) (Q := (fun z : Int32 × MS => r = some (.int z.1) ∧ μ' = z.2)) (fun s z hz hk => t_X1_nextDuration_44_b hB hz hk) (l0, l1, l2, l3, μ) z hf hk
set_option maxHeartbeats 4000000 in
set_option maxRecDepth 100000 in
theorem t_X1_nextDuration_0 {X : BX} {D : va_G} {cy : Nat → ClassId} {b : Nat} {r : Option Value} {μ' : MS} (hB : BB X D cy b yX1_nextDuration cX1_nextDuration 4 (some .int) rmX1_nextDuration) {l0 : Nat} {μ : MS} {z : (Int32 × MS)} (hf : f_X1_nextDuration l0 μ = some z) (hk : (fun z : Int32 × MS => r = some (.int z.1) ∧ μ' = z.2) z) : WW X D cy b r μ' 4 0 0 0 [(0, .ref (b + l0))] [] μ := by
  unfold f_X1_nextDuration at hf
  refine r_aload_n hB 0 rfl (by decide +kernel : decode cX1_nextDuration 0 = .ok (.aload_n 0, 1)) rfl ?_
  refine r_gI hB cf1 9 (by decide) (own := "PulseRemote$Collision") rfl (Or.inl k_443) (by decide +kernel) (by decide +kernel : decode cX1_nextDuration 1 = .ok (.getfield 38, 3)) hf (fun x1 hf => ?_)
  refine r_if_le hB (tgt := 19) (by decide +kernel : decode cX1_nextDuration 4 = .ok (.ifCond .le 15, 3)) (by decide) hf (fun _ hf => ?_) (fun _ hf => ?_)
  · refine r_aload_n hB 0 rfl (by decide +kernel : decode cX1_nextDuration 19 = .ok (.aload_n 0, 1)) rfl ?_
    refine r_gI hB cf1 6 (by decide) (own := "PulseRemote$Collision") rfl (Or.inl k_440) (by decide +kernel) (by decide +kernel : decode cX1_nextDuration 20 = .ok (.getfield 47, 3)) hf (fun x20 hf => ?_)
    refine r_if_ne hB (tgt := 28) (by decide +kernel : decode cX1_nextDuration 23 = .ok (.ifCond .ne 5, 3)) (by decide) hf (fun _ hf => ?_) (fun _ hf => ?_)
    · refine r_iconst hB (v := 0) (by decide +kernel : decode cX1_nextDuration 26 = .ok (.iconst 0, 1)) (by decide +kernel) ?_
      obtain rfl := Option.some.inj hf
      obtain ⟨rfl, rfl⟩ := hk
      exact r_iret hB (by decide +kernel : decode cX1_nextDuration 27 = .ok (.ireturn, 1))
    · refine r_aload_n hB 0 rfl (by decide +kernel : decode cX1_nextDuration 28 = .ok (.aload_n 0, 1)) rfl ?_
      refine r_gI hB cf1 7 (by decide) (own := "PulseRemote$Collision") rfl (Or.inl k_441) (by decide +kernel) (by decide +kernel : decode cX1_nextDuration 29 = .ok (.getfield 51, 3)) hf (fun x29 hf => ?_)
      refine r_istore_n hB (by decide +kernel : decode cX1_nextDuration 32 = .ok (.istore_n 1, 1)) rfl (by decide) rfl ?_
      refine ww_lv (lv' := [(1, .int x29), (0, .ref (b + l0))]) rfl ?_
      refine r_aload_n hB 1 rfl (by decide +kernel : decode cX1_nextDuration 33 = .ok (.aload_n 0, 1)) rfl ?_
      refine r_gI hB cf1 8 (by decide) (own := "PulseRemote$Collision") rfl (Or.inl k_442) (by decide +kernel) (by decide +kernel : decode cX1_nextDuration 34 = .ok (.getfield 58, 3)) hf (fun x34 hf => ?_)
      refine r_istore_n hB (by decide +kernel : decode cX1_nextDuration 37 = .ok (.istore_n 2, 1)) rfl (by decide) rfl ?_
      refine ww_lv (lv' := [(2, .int x34), (1, .int x29), (0, .ref (b + l0))]) rfl ?_
      refine r_aload_n hB 2 rfl (by decide +kernel : decode cX1_nextDuration 38 = .ok (.aload_n 0, 1)) rfl ?_
      refine r_cVv hB [] [] cf1 (own := "PulseRemote$Collision") rfl cmX1_takeMark imX1_takeMark (Or.inl k_910) (by decide) rfl rfl rfl (Nat.le_of_ble_eq_true rfl) (by decide +kernel : decode cX1_nextDuration 39 = .ok (.invokevirtual 41, 3)) (fun z hz => m_X1_takeMark _ _ _ _ hz) rfl hf (fun z39 hf => ?_)
      refine r_iconst hB (v := 0) (by decide +kernel : decode cX1_nextDuration 42 = .ok (.iconst 0, 1)) (by decide +kernel) ?_
      refine r_istore_n hB (by decide +kernel : decode cX1_nextDuration 43 = .ok (.istore_n 3, 1)) rfl (by decide) rfl ?_
      refine ww_lv (lv' := [(3, .int 0), (2, .int x34), (1, .int x29), (0, .ref (b + l0))]) rfl ?_
      exact WW.sub [3, 2, 1, 0] rfl (t_X1_nextDuration_44 hB hf hk)
  · refine r_aload_n hB 0 rfl (by decide +kernel : decode cX1_nextDuration 7 = .ok (.aload_n 0, 1)) rfl ?_
    refine r_gI hB cf1 9 (by decide) (own := "PulseRemote$Collision") rfl (Or.inl k_443) (by decide +kernel) (by decide +kernel : decode cX1_nextDuration 8 = .ok (.getfield 38, 3)) hf (fun x8 hf => ?_)
    refine r_istore_n hB (by decide +kernel : decode cX1_nextDuration 11 = .ok (.istore_n 1, 1)) rfl (by decide) rfl ?_
    refine ww_lv (lv' := [(1, .int x8), (0, .ref (b + l0))]) rfl ?_
    refine r_aload_n hB 1 rfl (by decide +kernel : decode cX1_nextDuration 12 = .ok (.aload_n 0, 1)) rfl ?_
    refine r_iconst hB (v := 0) (by decide +kernel : decode cX1_nextDuration 13 = .ok (.iconst 0, 1)) (by decide +kernel) ?_
    refine r_pI hB cf1 9 (by decide) (own := "PulseRemote$Collision") rfl (Or.inl k_443) (Or.inl rfl) rfl (by decide +kernel : decode cX1_nextDuration 14 = .ok (.putfield 38, 3)) hf (fun m14 hf => ?_)
    refine r_iload_n hB 0 rfl (by decide +kernel : decode cX1_nextDuration 17 = .ok (.iload_n 1, 1)) rfl ?_
    obtain rfl := Option.some.inj hf
    obtain ⟨rfl, rfl⟩ := hk
    exact r_iret hB (by decide +kernel : decode cX1_nextDuration 18 = .ok (.ireturn, 1))
theorem m_X1_nextDuration (l : Launch) (D : va_G) (cy : Nat → ClassId) (b : Nat) {l0 : Nat} {μ : MS} {z : Int32 × MS} (hf : f_X1_nextDuration l0 μ = some z) : Met l yX1_nextDuration (.code yX1_nextDuration cX1_nextDuration 4 (some .int) :: GW) rmX1_nextDuration (Pw D cy b [.ref (b + l0)] μ) (Qw D cy b (some (.int z.1)) (z.2)) rmX1_nextDuration.cells rmX1_nextDuration.slots (fun q => b ≤ q) :=
  met_of (by decide) (Nat.le_of_ble_eq_true rfl) (fun X hB _ => (t_X1_nextDuration_0 hB hf ⟨rfl, rfl⟩))
-- PulseRemote$Collision.writeTo(LPulseRemote$Train;)Z
set_option maxHeartbeats 4000000 in
set_option maxRecDepth 100000 in
theorem t_X1_writeTo_39 {X : BX} {D : va_G} {cy : Nat → ClassId} {b : Nat} {r : Option Value} {μ' : MS} (hB : BB X D cy b yX1_writeTo cX1_writeTo 4 (some .boolean) rmX1_writeTo) {l2 : Int32} {μ : MS} {z : (Int32 × MS)} (hf : f_X1_writeTo_39 l2 μ = some z) (hk : (fun z : Int32 × MS => r = some (.int z.1) ∧ μ' = z.2) z) : WW X D cy b r μ' 4 0 0 39 [(2, .int l2)] [] μ := by
  unfold f_X1_writeTo_39 at hf
  refine r_iload_n hB 0 rfl (by decide +kernel : decode cX1_writeTo 39 = .ok (.iload_n 2, 1)) rfl ?_
  refine r_if_ne hB (tgt := 47) (by decide +kernel : decode cX1_writeTo 40 = .ok (.ifCond .ne 7, 3)) (by decide) hf (fun _ hf => ?_) (fun _ hf => ?_)
  · refine r_iconst hB (v := 1) (by decide +kernel : decode cX1_writeTo 43 = .ok (.iconst 1, 1)) (by decide +kernel) ?_
    refine r_goto hB (tgt := 48) (by decide +kernel : decode cX1_writeTo 44 = .ok (.goto 4, 3)) (by decide) ?_
    obtain rfl := Option.some.inj hf
    obtain ⟨rfl, rfl⟩ := hk
    exact r_zret hB (Or.inr rfl) (by decide +kernel : decode cX1_writeTo 48 = .ok (.ireturn, 1))
  · refine r_iconst hB (v := 0) (by decide +kernel : decode cX1_writeTo 47 = .ok (.iconst 0, 1)) (by decide +kernel) ?_
    obtain rfl := Option.some.inj hf
    obtain ⟨rfl, rfl⟩ := hk
    exact r_zret hB (Or.inl rfl) (by decide +kernel : decode cX1_writeTo 48 = .ok (.ireturn, 1))
set_option maxHeartbeats 4000000 in
set_option maxRecDepth 100000 in
theorem t_X1_writeTo_12_b {X : BX} {D : va_G} {cy : Nat → ClassId} {b : Nat} {r : Option Value} {μ' : MS} (hB : BB X D cy b yX1_writeTo cX1_writeTo 4 (some .boolean) rmX1_writeTo) {l0 : Nat} {l1 : Nat} {l2 : Int32} {l3 : Int32} {μ : MS} {z : ((Nat × Nat × Int32 × Int32 × MS) ⊕ (Int32 × MS))} (hf : f_X1_writeTo_12_b l0 l1 l2 l3 μ = some z) (hk : (Sum.elim (fun s : Nat × Nat × Int32 × Int32 × MS => WW X D cy b r μ' 4 0 0 12 [(0, .ref (b + s.1)), (1, .ref (b + s.2.1)), (2, .int s.2.2.1), (3, .int s.2.2.2.1)] [] s.2.2.2.2) (fun z : Int32 × MS => r = some (.int z.1) ∧ μ' = z.2)) z) : WW X D cy b r μ' 4 0 0 12 [(0, .ref (b + l0)), (1, .ref (b + l1)), (2, .int l2), (3, .int l3)] [] μ := by
  unfold f_X1_writeTo_12_b at hf
  refine r_iload_n hB 3 rfl (by decide +kernel : decode cX1_writeTo 12 = .ok (.iload_n 3, 1)) rfl ?_
  refine r_sipush hB (v := 200) (by decide +kernel : decode cX1_writeTo 13 = .ok (.sipush 200, 3)) (by decide +kernel) ?_
  refine r_icmp_ge hB (tgt := 39) (by decide +kernel : decode cX1_writeTo 16 = .ok (.if_icmp .ge 23, 3)) (by decide) hf (fun _ hf => ?_) (fun _ hf => ?_)
  · obtain ⟨_, hx0, rfl⟩ := xr_inv hf
    exact WW.sub [2] rfl (t_X1_writeTo_39 hB hx0 hk)
  · refine r_iload_n hB 2 rfl (by decide +kernel : decode cX1_writeTo 19 = .ok (.iload_n 2, 1)) rfl ?_
    refine r_if_le hB (tgt := 39) (by decide +kernel : decode cX1_writeTo 20 = .ok (.ifCond .le 19, 3)) (by decide) hf (fun _ hf => ?_) (fun _ hf => ?_)
    · obtain ⟨_, hx0, rfl⟩ := xr_inv hf
      exact WW.sub [2] rfl (t_X1_writeTo_39 hB hx0 hk)
    · refine r_aload_n hB 1 rfl (by decide +kernel : decode cX1_writeTo 23 = .ok (.aload_n 1, 1)) rfl ?_
      refine r_iload_n hB 2 rfl (by decide +kernel : decode cX1_writeTo 24 = .ok (.iload_n 2, 1)) rfl ?_
      refine r_cVv hB [.int l2] [] cf10 (own := "PulseRemote$Collision") rfl cmX10_put imX10_put (Or.inl k_924) (by decide) rfl rfl rfl (Nat.le_of_ble_eq_true rfl) (by decide +kernel : decode cX1_writeTo 25 = .ok (.invokevirtual 71, 3)) (fun z hz => m_X10_put _ _ _ _ hz) rfl hf (fun z25 hf => ?_)
      refine r_aload_n hB 0 rfl (by decide +kernel : decode cX1_writeTo 28 = .ok (.aload_n 0, 1)) rfl ?_
      refine r_cVi hB [] [] cf1 (own := "PulseRemote$Collision") rfl cmX1_nextDuration imX1_nextDuration (Or.inl k_919) (by decide) rfl rfl rfl (Nat.le_of_ble_eq_true rfl) (by decide +kernel : decode cX1_writeTo 29 = .ok (.invokevirtual 67, 3)) (fun z hz => m_X1_nextDuration _ _ _ _ hz) rfl hf (fun z29 hf => ?_)
      refine r_istore_n hB (by decide +kernel : decode cX1_writeTo 32 = .ok (.istore_n 2, 1)) rfl (by decide) rfl ?_
      refine ww_lv (lv' := [(2, .int z29.1), (0, .ref (b + l0)), (1, .ref (b + l1)), (3, .int l3)]) rfl ?_
      refine r_iincB hB 3 rfl (by decide +kernel : decode cX1_writeTo 33 = .ok (.iinc 3 1, 3)) (w := 1) (by decide +kernel) (by decide) hf (fun v33 hf => ?_)
      refine ww_lv (lv' := [(3, .int v33), (2, .int z29.1), (0, .ref (b + l0)), (1, .ref (b + l1))]) rfl ?_
      refine r_goto hB (tgt := 12) (by decide +kernel : decode cX1_writeTo 36 = .ok (.goto (-24), 3)) (by decide) ?_
      obtain rfl := Option.some.inj hf
      exact WW.sub [2, 3, 1, 0] rfl hk
set_option maxHeartbeats 4000000 in
set_option maxRecDepth 100000 in
theorem t_X1_writeTo_12 {X : BX} {D : va_G} {cy : Nat → ClassId} {b : Nat} {r : Option Value} {μ' : MS} (hB : BB X D cy b yX1_writeTo cX1_writeTo 4 (some .boolean) rmX1_writeTo) {l0 : Nat} {l1 : Nat} {l2 : Int32} {l3 : Int32} {μ : MS} {z : (Int32 × MS)} (hf : f_X1_writeTo_12 l0 l1 l2 l3 μ = some z) (hk : (fun z : Int32 × MS => r = some (.int z.1) ∧ μ' = z.2) z) : WW X D cy b r μ' 4 0 0 12 [(0, .ref (b + l0)), (1, .ref (b + l1)), (2, .int l2), (3, .int l3)] [] μ :=
  lp_ind (P := fun s : Nat × Nat × Int32 × Int32 × MS => WW X D cy b r μ' 4 0 0 12 [(0, .ref (b + s.1)), (1, .ref (b + s.2.1)), (2, .int s.2.2.1), (3, .int s.2.2.2.1)] [] s.2.2.2.2) (Q := (fun z : Int32 × MS => r = some (.int z.1) ∧ μ' = z.2)) (fun s z hz hk => t_X1_writeTo_12_b hB hz hk) (l0, l1, l2, l3, μ) z hf hk
set_option maxHeartbeats 4000000 in
set_option maxRecDepth 100000 in
theorem t_X1_writeTo_0 {X : BX} {D : va_G} {cy : Nat → ClassId} {b : Nat} {r : Option Value} {μ' : MS} (hB : BB X D cy b yX1_writeTo cX1_writeTo 4 (some .boolean) rmX1_writeTo) {l0 : Nat} {l1 : Nat} {μ : MS} {z : (Int32 × MS)} (hf : f_X1_writeTo l0 l1 μ = some z) (hk : (fun z : Int32 × MS => r = some (.int z.1) ∧ μ' = z.2) z) : WW X D cy b r μ' 4 0 0 0 [(0, .ref (b + l0)), (1, .ref (b + l1))] [] μ := by
  unfold f_X1_writeTo at hf
  refine r_aload_n hB 1 rfl (by decide +kernel : decode cX1_writeTo 0 = .ok (.aload_n 1, 1)) rfl ?_
  refine r_iconst hB (v := 0) (by decide +kernel : decode cX1_writeTo 1 = .ok (.iconst 0, 1)) (by decide +kernel) ?_
  refine r_pI hB cf10 1 (by decide) (own := "PulseRemote$Collision") rfl (Or.inr ⟨_, k_202⟩) (Or.inl rfl) rfl (by decide +kernel : decode cX1_writeTo 2 = .ok (.putfield 44, 3)) hf (fun m2 hf => ?_)
  refine r_aload_n hB 0 rfl (by decide +kernel : decode cX1_writeTo 5 = .ok (.aload_n 0, 1)) rfl ?_
  refine r_cVi hB [] [] cf1 (own := "PulseRemote$Collision") rfl cmX1_nextDuration imX1_nextDuration (Or.inl k_919) (by decide) rfl rfl rfl (Nat.le_of_ble_eq_true rfl) (by decide +kernel : decode cX1_writeTo 6 = .ok (.invokevirtual 67, 3)) (fun z hz => m_X1_nextDuration _ _ _ _ hz) rfl hf (fun z6 hf => ?_)
  refine r_istore_n hB (by decide +kernel : decode cX1_writeTo 9 = .ok (.istore_n 2, 1)) rfl (by decide) rfl ?_
  refine ww_lv (lv' := [(2, .int z6.1), (0, .ref (b + l0)), (1, .ref (b + l1))]) rfl ?_
  refine r_iconst hB (v := 0) (by decide +kernel : decode cX1_writeTo 10 = .ok (.iconst 0, 1)) (by decide +kernel) ?_
  refine r_istore_n hB (by decide +kernel : decode cX1_writeTo 11 = .ok (.istore_n 3, 1)) rfl (by decide) rfl ?_
  refine ww_lv (lv' := [(3, .int 0), (2, .int z6.1), (0, .ref (b + l0)), (1, .ref (b + l1))]) rfl ?_
  exact WW.sub [2, 3, 1, 0] rfl (t_X1_writeTo_12 hB hf hk)
theorem m_X1_writeTo (l : Launch) (D : va_G) (cy : Nat → ClassId) (b : Nat) {l0 : Nat} {l1 : Nat} {μ : MS} {z : Int32 × MS} (hf : f_X1_writeTo l0 l1 μ = some z) : Met l yX1_writeTo (.code yX1_writeTo cX1_writeTo 4 (some .boolean) :: GW) rmX1_writeTo (Pw D cy b [.ref (b + l0), .ref (b + l1)] μ) (Qw D cy b (some (.int z.1)) (z.2)) rmX1_writeTo.cells rmX1_writeTo.slots (fun q => b ≤ q) :=
  met_of (by decide) (Nat.le_of_ble_eq_true rfl) (fun X hB _ => (t_X1_writeTo_0 hB hf ⟨rfl, rfl⟩))
-- PulseRemote$Train.longest()I
set_option maxHeartbeats 4000000 in
set_option maxRecDepth 100000 in
theorem t_X10_longest_28 {X : BX} {D : va_G} {cy : Nat → ClassId} {b : Nat} {r : Option Value} {μ' : MS} (hB : BB X D cy b yX10_longest cX10_longest 3 (some .int) rmX10_longest) {l1 : Int32} {μ : MS} {z : (Int32 × MS)} (hf : f_X10_longest_28 l1 μ = some z) (hk : (fun z : Int32 × MS => r = some (.int z.1) ∧ μ' = z.2) z) : WW X D cy b r μ' 3 0 0 28 [(1, .int l1)] [] μ := by
  unfold f_X10_longest_28 at hf
  refine r_iload_n hB 0 rfl (by decide +kernel : decode cX10_longest 28 = .ok (.iload_n 1, 1)) rfl ?_
  obtain rfl := Option.some.inj hf
  obtain ⟨rfl, rfl⟩ := hk
  exact r_iret hB (by decide +kernel : decode cX10_longest 29 = .ok (.ireturn, 1))
set_option maxHeartbeats 4000000 in
set_option maxRecDepth 100000 in
theorem t_X10_longest_4_b {X : BX} {D : va_G} {cy : Nat → ClassId} {b : Nat} {r : Option Value} {μ' : MS} (hB : BB X D cy b yX10_longest cX10_longest 3 (some .int) rmX10_longest) {l0 : Nat} {l1 : Int32} {l2 : Int32} {μ : MS} {z : ((Nat × Int32 × Int32 × MS) ⊕ (Int32 × MS))} (hf : f_X10_longest_4_b l0 l1 l2 μ = some z) (hk : (Sum.elim (fun s : Nat × Int32 × Int32 × MS => WW X D cy b r μ' 3 0 0 4 [(0, .ref (b + s.1)), (1, .int s.2.1), (2, .int s.2.2.1)] [] s.2.2.2) (fun z : Int32 × MS => r = some (.int z.1) ∧ μ' = z.2)) z) : WW X D cy b r μ' 3 0 0 4 [(0, .ref (b + l0)), (1, .int l1), (2, .int l2)] [] μ := by
  unfold f_X10_longest_4_b at hf
  refine r_iload_n hB 2 rfl (by decide +kernel : decode cX10_longest 4 = .ok (.iload_n 2, 1)) rfl ?_
  refine r_aload_n hB 0 rfl (by decide +kernel : decode cX10_longest 5 = .ok (.aload_n 0, 1)) rfl ?_
  refine r_gI hB cf10 1 (by decide) (own := "PulseRemote$Train") rfl (Or.inl k_200) (by decide +kernel) (by decide +kernel : decode cX10_longest 6 = .ok (.getfield 15, 3)) hf (fun x6 hf => ?_)
  refine r_icmp_ge hB (tgt := 28) (by decide +kernel : decode cX10_longest 9 = .ok (.if_icmp .ge 19, 3)) (by decide) hf (fun _ hf => ?_) (fun _ hf => ?_)
  · obtain ⟨_, hx0, rfl⟩ := xr_inv hf
    exact WW.sub [1] rfl (t_X10_longest_28 hB hx0 hk)
  · refine r_iload_n hB 1 rfl (by decide +kernel : decode cX10_longest 12 = .ok (.iload_n 1, 1)) rfl ?_
    refine r_aload_n hB 0 rfl (by decide +kernel : decode cX10_longest 13 = .ok (.aload_n 0, 1)) rfl ?_
    refine r_iload_n hB 2 rfl (by decide +kernel : decode cX10_longest 14 = .ok (.iload_n 2, 1)) rfl ?_
    refine r_cVi hB [.int l2] [.int l1] cf10 (own := "PulseRemote$Train") rfl cmX10_at imX10_at (Or.inl k_929) (by decide) rfl rfl rfl (Nat.le_of_ble_eq_true rfl) (by decide +kernel : decode cX10_longest 15 = .ok (.invokevirtual 27, 3)) (fun z hz => m_X10_at _ _ _ _ hz) rfl hf (fun z15 hf => ?_)
    refine r_max hB (own := "PulseRemote$Train") rfl k_544 k_545 k_91 k_546 (by decide +kernel : decode cX10_longest 18 = .ok (.invokestatic 31, 3)) (by decide) (Nat.le_of_ble_eq_true rfl) ?_
    refine r_name hf (fun v21 hf => ?_)
    refine r_istore_n hB (by decide +kernel : decode cX10_longest 21 = .ok (.istore_n 1, 1)) rfl (by decide) rfl ?_
    refine ww_lv (lv' := [(1, .int v21), (0, .ref (b + l0)), (2, .int l2)]) rfl ?_
    refine r_iincB hB 2 rfl (by decide +kernel : decode cX10_longest 22 = .ok (.iinc 2 1, 3)) (w := 1) (by decide +kernel) (by decide) hf (fun v22 hf => ?_)
    refine ww_lv (lv' := [(2, .int v22), (1, .int v21), (0, .ref (b + l0))]) rfl ?_
    refine r_goto hB (tgt := 4) (by decide +kernel : decode cX10_longest 25 = .ok (.goto (-21), 3)) (by decide) ?_
    obtain rfl := Option.some.inj hf
    exact WW.sub [2, 1, 0] rfl hk
set_option maxHeartbeats 4000000 in
set_option maxRecDepth 100000 in
theorem t_X10_longest_4 {X : BX} {D : va_G} {cy : Nat → ClassId} {b : Nat} {r : Option Value} {μ' : MS} (hB : BB X D cy b yX10_longest cX10_longest 3 (some .int) rmX10_longest) {l0 : Nat} {l1 : Int32} {l2 : Int32} {μ : MS} {z : (Int32 × MS)} (hf : f_X10_longest_4 l0 l1 l2 μ = some z) (hk : (fun z : Int32 × MS => r = some (.int z.1) ∧ μ' = z.2) z) : WW X D cy b r μ' 3 0 0 4 [(0, .ref (b + l0)), (1, .int l1), (2, .int l2)] [] μ :=
  lp_ind (P := fun s : Nat × Int32 × Int32 × MS => WW X D cy b r μ' 3 0 0 4 [(0, .ref (b + s.1)), (1, .int s.2.1), (2, .int s.2.2.1)] [] s.2.2.2) (Q := (fun z : Int32 × MS => r = some (.int z.1) ∧ μ' = z.2)) (fun s z hz hk => t_X10_longest_4_b hB hz hk) (l0, l1, l2, μ) z hf hk
set_option maxHeartbeats 4000000 in
set_option maxRecDepth 100000 in
theorem t_X10_longest_0 {X : BX} {D : va_G} {cy : Nat → ClassId} {b : Nat} {r : Option Value} {μ' : MS} (hB : BB X D cy b yX10_longest cX10_longest 3 (some .int) rmX10_longest) {l0 : Nat} {μ : MS} {z : (Int32 × MS)} (hf : f_X10_longest l0 μ = some z) (hk : (fun z : Int32 × MS => r = some (.int z.1) ∧ μ' = z.2) z) : WW X D cy b r μ' 3 0 0 0 [(0, .ref (b + l0))] [] μ := by
  unfold f_X10_longest at hf
  refine r_iconst hB (v := 0) (by decide +kernel : decode cX10_longest 0 = .ok (.iconst 0, 1)) (by decide +kernel) ?_
  refine r_istore_n hB (by decide +kernel : decode cX10_longest 1 = .ok (.istore_n 1, 1)) rfl (by decide) rfl ?_
  refine ww_lv (lv' := [(1, .int 0), (0, .ref (b + l0))]) rfl ?_
  refine r_iconst hB (v := 0) (by decide +kernel : decode cX10_longest 2 = .ok (.iconst 0, 1)) (by decide +kernel) ?_
  refine r_istore_n hB (by decide +kernel : decode cX10_longest 3 = .ok (.istore_n 2, 1)) rfl (by decide) rfl ?_
  refine ww_lv (lv' := [(2, .int 0), (1, .int 0), (0, .ref (b + l0))]) rfl ?_
  exact WW.sub [2, 1, 0] rfl (t_X10_longest_4 hB hf hk)
theorem m_X10_longest (l : Launch) (D : va_G) (cy : Nat → ClassId) (b : Nat) {l0 : Nat} {μ : MS} {z : Int32 × MS} (hf : f_X10_longest l0 μ = some z) : Met l yX10_longest (.code yX10_longest cX10_longest 3 (some .int) :: GW) rmX10_longest (Pw D cy b [.ref (b + l0)] μ) (Qw D cy b (some (.int z.1)) (z.2)) rmX10_longest.cells rmX10_longest.slots (fun q => b ≤ q) :=
  met_of (by decide) (Nat.le_of_ble_eq_true rfl) (fun X hB _ => (t_X10_longest_0 hB hf ⟨rfl, rfl⟩))
-- PulseRemote.overlay(III)I
set_option maxHeartbeats 4000000 in
set_option maxRecDepth 100000 in
theorem t_X11_overlay_0 {X : BX} {D : va_G} {cy : Nat → ClassId} {b : Nat} {r : Option Value} {μ' : MS} (hB : BB X D cy b yX11_overlay cX11_overlay 6 (some .int) rmX11_overlay) {l0 : Nat} {l1 : Int32} {l2 : Int32} {l3 : Int32} {μ : MS} {z : (Int32 × MS)} (hf : f_X11_overlay l0 l1 l2 l3 μ = some z) (hk : (fun z : Int32 × MS => r = some (.int z.1) ∧ μ' = z.2) z) : WW X D cy b r μ' 6 0 0 0 [(0, .ref (b + l0)), (1, .int l1), (2, .int l2), (3, .int l3)] [] μ := by
  unfold f_X11_overlay at hf
  refine r_iload_n hB 1 rfl (by decide +kernel : decode cX11_overlay 0 = .ok (.iload_n 1, 1)) rfl ?_
  refine r_cSi hB [.int l1] [] (own := "PulseRemote") rfl cmX11_isSlot smX11_isSlot (Or.inl ⟨rfl, k_589⟩) (by decide) rfl rfl rfl (Nat.le_of_ble_eq_true rfl) (by decide +kernel : decode cX11_overlay 1 = .ok (.invokestatic 156, 3)) (fun z hz => m_X11_isSlot _ _ _ _ hz) rfl hf (fun z1 hf => ?_)
  refine r_if_eq hB (tgt := 29) (by decide +kernel : decode cX11_overlay 4 = .ok (.ifCond .eq 25, 3)) (by decide) hf (fun _ hf => ?_) (fun _ hf => ?_)
  · refine r_iconst hB (v := (-1)) (by decide +kernel : decode cX11_overlay 29 = .ok (.iconst (-1), 1)) (by decide +kernel) ?_
    obtain rfl := Option.some.inj hf
    obtain ⟨rfl, rfl⟩ := hk
    exact r_iret hB (by decide +kernel : decode cX11_overlay 30 = .ok (.ireturn, 1))
  · refine r_iload_n hB 2 rfl (by decide +kernel : decode cX11_overlay 7 = .ok (.iload_n 2, 1)) rfl ?_
    refine r_cSi hB [.int l2] [] (own := "PulseRemote") rfl cmX11_isSlot smX11_isSlot (Or.inl ⟨rfl, k_589⟩) (by decide) rfl rfl rfl (Nat.le_of_ble_eq_true rfl) (by decide +kernel : decode cX11_overlay 8 = .ok (.invokestatic 156, 3)) (fun z hz => m_X11_isSlot _ _ _ _ hz) rfl hf (fun z8 hf => ?_)
    refine r_if_eq hB (tgt := 29) (by decide +kernel : decode cX11_overlay 11 = .ok (.ifCond .eq 18, 3)) (by decide) hf (fun _ hf => ?_) (fun _ hf => ?_)
    · refine r_iconst hB (v := (-1)) (by decide +kernel : decode cX11_overlay 29 = .ok (.iconst (-1), 1)) (by decide +kernel) ?_
      obtain rfl := Option.some.inj hf
      obtain ⟨rfl, rfl⟩ := hk
      exact r_iret hB (by decide +kernel : decode cX11_overlay 30 = .ok (.ireturn, 1))
    · refine r_iload_n hB 1 rfl (by decide +kernel : decode cX11_overlay 14 = .ok (.iload_n 1, 1)) rfl ?_
      refine r_iload_n hB 2 rfl (by decide +kernel : decode cX11_overlay 15 = .ok (.iload_n 2, 1)) rfl ?_
      refine r_icmp_eq hB (tgt := 29) (by decide +kernel : decode cX11_overlay 16 = .ok (.if_icmp .eq 13, 3)) (by decide) hf (fun _ hf => ?_) (fun _ hf => ?_)
      · refine r_iconst hB (v := (-1)) (by decide +kernel : decode cX11_overlay 29 = .ok (.iconst (-1), 1)) (by decide +kernel) ?_
        obtain rfl := Option.some.inj hf
        obtain ⟨rfl, rfl⟩ := hk
        exact r_iret hB (by decide +kernel : decode cX11_overlay 30 = .ok (.ireturn, 1))
      · refine r_iload_n hB 3 rfl (by decide +kernel : decode cX11_overlay 19 = .ok (.iload_n 3, 1)) rfl ?_
        refine r_iconst hB (v := 0) (by decide +kernel : decode cX11_overlay 20 = .ok (.iconst 0, 1)) (by decide +kernel) ?_
        refine r_ldc hB (v := 60000) (own := "PulseRemote") rfl k_720 (by decide +kernel : decode cX11_overlay 21 = .ok (.ldc 222, 2)) ?_
        refine r_cSi hB [.int l3, .int 0, .int 60000] [] (own := "PulseRemote") rfl cmX11_inRange smX11_inRange (Or.inl ⟨rfl, k_506⟩) (by decide) rfl rfl rfl (Nat.le_of_ble_eq_true rfl) (by decide +kernel : decode cX11_overlay 23 = .ok (.invokestatic 80, 3)) (fun z hz => m_X11_inRange _ _ _ _ hz) rfl hf (fun z23 hf => ?_)
        refine r_if_ne hB (tgt := 31) (by decide +kernel : decode cX11_overlay 26 = .ok (.ifCond .ne 5, 3)) (by decide) hf (fun _ hf => ?_) (fun _ hf => ?_)
        · refine r_iconst hB (v := (-1)) (by decide +kernel : decode cX11_overlay 29 = .ok (.iconst (-1), 1)) (by decide +kernel) ?_
          obtain rfl := Option.some.inj hf
          obtain ⟨rfl, rfl⟩ := hk
          exact r_iret hB (by decide +kernel : decode cX11_overlay 30 = .ok (.ireturn, 1))
        · refine r_aload_n hB 0 rfl (by decide +kernel : decode cX11_overlay 31 = .ok (.aload_n 0, 1)) rfl ?_
          refine r_gR hB cf11 0 (by decide) (own := "PulseRemote") rfl (Or.inl k_465) (by decide +kernel) (by decide +kernel : decode cX11_overlay 32 = .ok (.getfield 12, 3)) hf (fun x32 hf => ?_)
          refine r_iload_n hB 1 rfl (by decide +kernel : decode cX11_overlay 35 = .ok (.iload_n 1, 1)) rfl ?_
          refine r_cVr hB [.int l1] [] cf7 (own := "PulseRemote") rfl cmX7_trainAt imX7_trainAt (Or.inl k_592) (by decide) rfl rfl rfl (Nat.le_of_ble_eq_true rfl) (by decide +kernel : decode cX11_overlay 36 = .ok (.invokevirtual 159, 3)) (fun z hz => m_X7_trainAt _ _ _ _ hz) rfl hf (fun z36 hf => ?_)
          refine r_astore hB (by decide +kernel : decode cX11_overlay 39 = .ok (.astore 4, 2)) (by decide) rfl ?_
          refine ww_lv (lv' := [(4, .ref (b + z36.1)), (0, .ref (b + l0)), (1, .int l1), (2, .int l2), (3, .int l3)]) rfl ?_
          refine r_aload_n hB 1 rfl (by decide +kernel : decode cX11_overlay 41 = .ok (.aload_n 0, 1)) rfl ?_
          refine r_gR hB cf11 0 (by decide) (own := "PulseRemote") rfl (Or.inl k_465) (by decide +kernel) (by decide +kernel : decode cX11_overlay 42 = .ok (.getfield 12, 3)) hf (fun x42 hf => ?_)
          refine r_iload_n hB 3 rfl (by decide +kernel : decode cX11_overlay 45 = .ok (.iload_n 2, 1)) rfl ?_
          refine r_cVr hB [.int l2] [] cf7 (own := "PulseRemote") rfl cmX7_trainAt imX7_trainAt (Or.inl k_592) (by decide) rfl rfl rfl (Nat.le_of_ble_eq_true rfl) (by decide +kernel : decode cX11_overlay 46 = .ok (.invokevirtual 159, 3)) (fun z hz => m_X7_trainAt _ _ _ _ hz) rfl hf (fun z46 hf => ?_)
          refine r_astore hB (by decide +kernel : decode cX11_overlay 49 = .ok (.astore 5, 2)) (by decide) rfl ?_
          refine ww_lv (lv' := [(5, .ref (b + z46.1)), (4, .ref (b + z36.1)), (0, .ref (b + l0)), (1, .int l1), (2, .int l2), (3, .int l3)]) rfl ?_
          refine r_aload hB 1 rfl (by decide +kernel : decode cX11_overlay 51 = .ok (.aload 4, 2)) ?_
          refine r_cVi hB [] [] cf10 (own := "PulseRemote") rfl cmX10_endsWithMark imX10_endsWithMark (Or.inl k_883) (by decide) rfl rfl rfl (Nat.le_of_ble_eq_true rfl) (by decide +kernel : decode cX11_overlay 53 = .ok (.invokevirtual 260, 3)) (fun z hz => m_X10_endsWithMark _ _ _ _ hz) rfl hf (fun z53 hf => ?_)
          refine r_if_eq hB (tgt := 67) (by decide +kernel : decode cX11_overlay 56 = .ok (.ifCond .eq 11, 3)) (by decide) hf (fun _ hf => ?_) (fun _ hf => ?_)
          · refine r_bipush hB (v := (-2)) (by decide +kernel : decode cX11_overlay 67 = .ok (.bipush (-2), 2)) (by decide +kernel) ?_
            obtain rfl := Option.some.inj hf
            obtain ⟨rfl, rfl⟩ := hk
            exact r_iret hB (by decide +kernel : decode cX11_overlay 69 = .ok (.ireturn, 1))
          · refine r_aload hB 0 rfl (by decide +kernel : decode cX11_overlay 59 = .ok (.aload 5, 2)) ?_
            refine r_cVi hB [] [] cf10 (own := "PulseRemote") rfl cmX10_endsWithMark imX10_endsWithMark (Or.inl k_883) (by decide) rfl rfl rfl (Nat.le_of_ble_eq_true rfl) (by decide +kernel : decode cX11_overlay 61 = .ok (.invokevirtual 260, 3)) (fun z hz => m_X10_endsWithMark _ _ _ _ hz) rfl hf (fun z61 hf => ?_)
            refine r_if_ne hB (tgt := 70) (by decide +kernel : decode cX11_overlay 64 = .ok (.ifCond .ne 6, 3)) (by decide) hf (fun _ hf => ?_) (fun _ hf => ?_)
            · refine r_bipush hB (v := (-2)) (by decide +kernel : decode cX11_overlay 67 = .ok (.bipush (-2), 2)) (by decide +kernel) ?_
              obtain rfl := Option.some.inj hf
              obtain ⟨rfl, rfl⟩ := hk
              exact r_iret hB (by decide +kernel : decode cX11_overlay 69 = .ok (.ireturn, 1))
            · refine r_aload_n hB 2 rfl (by decide +kernel : decode cX11_overlay 70 = .ok (.aload_n 0, 1)) rfl ?_
              refine r_gR hB cf11 11 (by decide) (own := "PulseRemote") rfl (Or.inl k_476) (by decide +kernel) (by decide +kernel : decode cX11_overlay 71 = .ok (.getfield 76, 3)) hf (fun x71 hf => ?_)
              refine r_aload hB 1 rfl (by decide +kernel : decode cX11_overlay 74 = .ok (.aload 4, 2)) ?_
              refine r_aload hB 0 rfl (by decide +kernel : decode cX11_overlay 76 = .ok (.aload 5, 2)) ?_
              refine r_cVv hB [.ref (b + z36.1), .ref (b + z46.1)] [] cf1 (own := "PulseRemote") rfl cmX1_lay imX1_lay (Or.inl k_901) (by decide) rfl rfl rfl (Nat.le_of_ble_eq_true rfl) (by decide +kernel : decode cX11_overlay 78 = .ok (.invokevirtual 263, 3)) (fun z hz => m_X1_lay _ _ _ _ hz) rfl hf (fun z78 hf => ?_)
              refine r_aload_n hB 2 rfl (by decide +kernel : decode cX11_overlay 81 = .ok (.aload_n 0, 1)) rfl ?_
              refine r_gR hB cf11 11 (by decide) (own := "PulseRemote") rfl (Or.inl k_476) (by decide +kernel) (by decide +kernel : decode cX11_overlay 82 = .ok (.getfield 76, 3)) hf (fun x82 hf => ?_)
              refine r_iload_n hB 5 rfl (by decide +kernel : decode cX11_overlay 85 = .ok (.iload_n 3, 1)) rfl ?_
              refine r_cVv hB [.int l3] [] cf1 (own := "PulseRemote") rfl cmX1_begin imX1_begin (Or.inl k_906) (by decide) rfl rfl rfl (Nat.le_of_ble_eq_true rfl) (by decide +kernel : decode cX11_overlay 86 = .ok (.invokevirtual 267, 3)) (fun z hz => m_X1_begin _ _ _ _ hz) rfl hf (fun z86 hf => ?_)
              refine r_aload_n hB 2 rfl (by decide +kernel : decode cX11_overlay 89 = .ok (.aload_n 0, 1)) rfl ?_
              refine r_gR hB cf11 11 (by decide) (own := "PulseRemote") rfl (Or.inl k_476) (by decide +kernel) (by decide +kernel : decode cX11_overlay 90 = .ok (.getfield 76, 3)) hf (fun x90 hf => ?_)
              refine r_aload_n hB 2 rfl (by decide +kernel : decode cX11_overlay 93 = .ok (.aload_n 0, 1)) rfl ?_
              refine r_gR hB cf11 5 (by decide) (own := "PulseRemote") rfl (Or.inl k_470) (by decide +kernel) (by decide +kernel : decode cX11_overlay 94 = .ok (.getfield 37, 3)) hf (fun x94 hf => ?_)
              refine r_cVi hB [.ref (b + x94)] [] cf1 (own := "PulseRemote") rfl cmX1_writeTo imX1_writeTo (Or.inl k_915) (by decide) rfl rfl rfl (Nat.le_of_ble_eq_true rfl) (by decide +kernel : decode cX11_overlay 97 = .ok (.invokevirtual 270, 3)) (fun z hz => m_X1_writeTo _ _ _ _ hz) rfl hf (fun z97 hf => ?_)
              refine r_if_eq hB (tgt := 115) (by decide +kernel : decode cX11_overlay 100 = .ok (.ifCond .eq 15, 3)) (by decide) hf (fun _ hf => ?_) (fun _ hf => ?_)
              · refine r_bipush hB (v := (-3)) (by decide +kernel : decode cX11_overlay 115 = .ok (.bipush (-3), 2)) (by decide +kernel) ?_
                obtain rfl := Option.some.inj hf
                obtain ⟨rfl, rfl⟩ := hk
                exact r_iret hB (by decide +kernel : decode cX11_overlay 117 = .ok (.ireturn, 1))
              · refine r_aload_n hB 2 rfl (by decide +kernel : decode cX11_overlay 103 = .ok (.aload_n 0, 1)) rfl ?_
                refine r_gR hB cf11 5 (by decide) (own := "PulseRemote") rfl (Or.inl k_470) (by decide +kernel) (by decide +kernel : decode cX11_overlay 104 = .ok (.getfield 37, 3)) hf (fun x104 hf => ?_)
                refine r_cVi hB [] [] cf10 (own := "PulseRemote") rfl cmX10_longest imX10_longest (Or.inl k_925) (by decide) rfl rfl rfl (Nat.le_of_ble_eq_true rfl) (by decide +kernel : decode cX11_overlay 107 = .ok (.invokevirtual 274, 3)) (fun z hz => m_X10_longest _ _ _ _ hz) rfl hf (fun z107 hf => ?_)
                refine r_ldc hB (v := 60000) (own := "PulseRemote") rfl k_720 (by decide +kernel : decode cX11_overlay 110 = .ok (.ldc 222, 2)) ?_
                refine r_icmp_le hB (tgt := 118) (by decide +kernel : decode cX11_overlay 112 = .ok (.if_icmp .le 6, 3)) (by decide) hf (fun _ hf => ?_) (fun _ hf => ?_)
                · refine r_aload_n hB 2 rfl (by decide +kernel : decode cX11_overlay 118 = .ok (.aload_n 0, 1)) rfl ?_
                  refine r_cVv hB [] [] cf11 (own := "PulseRemote") rfl cmX11_saveState imX11_saveState (Or.inl k_513) (by decide) rfl rfl rfl (Nat.le_of_ble_eq_true rfl) (by decide +kernel : decode cX11_overlay 119 = .ok (.invokevirtual 91, 3)) (fun z hz => m_X11_saveState _ _ _ _ hz) rfl hf (fun z119 hf => ?_)
                  refine r_aload hB 1 rfl (by decide +kernel : decode cX11_overlay 122 = .ok (.aload 4, 2)) ?_
                  refine r_aload_n hB 2 rfl (by decide +kernel : decode cX11_overlay 124 = .ok (.aload_n 0, 1)) rfl ?_
                  refine r_gR hB cf11 5 (by decide) (own := "PulseRemote") rfl (Or.inl k_470) (by decide +kernel) (by decide +kernel : decode cX11_overlay 125 = .ok (.getfield 37, 3)) hf (fun x125 hf => ?_)
                  refine r_cVv hB [.ref (b + x125)] [] cf10 (own := "PulseRemote") rfl cmX10_copyFrom imX10_copyFrom (Or.inl k_930) (by decide) rfl rfl rfl (Nat.le_of_ble_eq_true rfl) (by decide +kernel : decode cX11_overlay 128 = .ok (.invokevirtual 278, 3)) (fun z hz => m_X10_copyFrom _ _ _ _ hz) rfl hf (fun z128 hf => ?_)
                  refine r_aload hB 1 rfl (by decide +kernel : decode cX11_overlay 131 = .ok (.aload 4, 2)) ?_
                  refine r_gI hB cf10 1 (by decide) (own := "PulseRemote") rfl (Or.inr ⟨_, k_204⟩) (by decide +kernel) (by decide +kernel : decode cX11_overlay 133 = .ok (.getfield 244, 3)) hf (fun x133 hf => ?_)
                  obtain rfl := Option.some.inj hf
                  obtain ⟨rfl, rfl⟩ := hk
                  exact r_iret hB (by decide +kernel : decode cX11_overlay 136 = .ok (.ireturn, 1))
                · refine r_bipush hB (v := (-3)) (by decide +kernel : decode cX11_overlay 115 = .ok (.bipush (-3), 2)) (by decide +kernel) ?_
                  obtain rfl := Option.some.inj hf
                  obtain ⟨rfl, rfl⟩ := hk
                  exact r_iret hB (by decide +kernel : decode cX11_overlay 117 = .ok (.ireturn, 1))
theorem m_X11_overlay (l : Launch) (D : va_G) (cy : Nat → ClassId) (b : Nat) {l0 : Nat} {l1 : Int32} {l2 : Int32} {l3 : Int32} {μ : MS} {z : Int32 × MS} (hf : f_X11_overlay l0 l1 l2 l3 μ = some z) : Met l yX11_overlay (.code yX11_overlay cX11_overlay 6 (some .int) :: GW) rmX11_overlay (Pw D cy b [.ref (b + l0), .int l1, .int l2, .int l3] μ) (Qw D cy b (some (.int z.1)) (z.2)) rmX11_overlay.cells rmX11_overlay.slots (fun q => b ≤ q) :=
  met_of (by decide) (Nat.le_of_ble_eq_true rfl) (fun X hB _ => (t_X11_overlay_0 hB hf ⟨rfl, rfl⟩))
-- PulseRemote$Train.stretch(I)I
set_option maxHeartbeats 4000000 in
set_option maxRecDepth 100000 in
theorem t_X10_stretch_102 {X : BX} {D : va_G} {cy : Nat → ClassId} {b : Nat} {r : Option Value} {μ' : MS} (hB : BB X D cy b yX10_stretch cX10_stretch 6 (some .int) rmX10_stretch) {l2 : Int32} {μ : MS} {z : (Int32 × MS)} (hf : f_X10_stretch_102 l2 μ = some z) (hk : (fun z : Int32 × MS => r = some (.int z.1) ∧ μ' = z.2) z) : WW X D cy b r μ' 6 0 0 102 [(2, .int l2)] [] μ := by
  unfold f_X10_stretch_102 at hf
  refine r_iload_n hB 0 rfl (by decide +kernel : decode cX10_stretch 102 = .ok (.iload_n 2, 1)) rfl ?_
  obtain rfl := Option.some.inj hf
  obtain ⟨rfl, rfl⟩ := hk
  exact r_iret hB (by decide +kernel : decode cX10_stretch 103 = .ok (.ireturn, 1))
set_option maxHeartbeats 4000000 in
set_option maxRecDepth 100000 in
theorem t_X10_stretch_88 {X : BX} {D : va_G} {cy : Nat → ClassId} {b : Nat} {r : Option Value} {μ' : MS} (hB : BB X D cy b yX10_stretch cX10_stretch 6 (some .int) rmX10_stretch) {l0 : Nat} {l1 : Int32} {l2 : Int32} {l3 : Int32} {l5 : Int32} {μ : MS} {z : ((Nat × Int32 × Int32 × Int32 × MS) ⊕ (Int32 × MS))} (hf : f_X10_stretch_88 l0 l1 l2 l3 l5 μ = some z) (hk : (Sum.elim (fun s : Nat × Int32 × Int32 × Int32 × MS => WW X D cy b r μ' 6 0 0 4 [(0, .ref (b + s.1)), (1, .int s.2.1), (2, .int s.2.2.1), (3, .int s.2.2.2.1)] [] s.2.2.2.2) (fun z : Int32 × MS => r = some (.int z.1) ∧ μ' = z.2)) z) : WW X D cy b r μ' 6 0 0 88 [(0, .ref (b + l0)), (1, .int l1), (2, .int l2), (3, .int l3), (5, .int l5)] [] μ := by
  unfold f_X10_stretch_88 at hf
  refine r_aload_n hB 0 rfl (by decide +kernel : decode cX10_stretch 88 = .ok (.aload_n 0, 1)) rfl ?_
  refine r_gR hB cf10 0 (by decide) (own := "PulseRemote$Train") rfl (Or.inl k_199) (by decide +kernel) (by decide +kernel : decode cX10_stretch 89 = .ok (.getfield 9, 3)) hf (fun x89 hf => ?_)
  refine r_iload_n hB 3 rfl (by decide +kernel : decode cX10_stretch 92 = .ok (.iload_n 3, 1)) rfl ?_
  refine r_iload hB 4 rfl (by decide +kernel : decode cX10_stretch 93 = .ok (.iload 5, 2)) ?_
  refine r_iast hB (by decide +kernel : decode cX10_stretch 95 = .ok (.iastore, 1)) hf (fun m95 hf => ?_)
  refine r_iincB hB 3 rfl (by decide +kernel : decode cX10_stretch 96 = .ok (.iinc 3 1, 3)) (w := 1) (by decide +kernel) (by decide) hf (fun v96 hf => ?_)
  refine ww_lv (lv' := [(3, .int v96), (0, .ref (b + l0)), (1, .int l1), (2, .int l2), (5, .int l5)]) rfl ?_
  refine r_goto hB (tgt := 4) (by decide +kernel : decode cX10_stretch 99 = .ok (.goto (-95), 3)) (by decide) ?_
  obtain rfl := Option.some.inj hf
  exact WW.sub [1, 2, 3, 0] rfl hk
set_option maxHeartbeats 4000000 in
set_option maxRecDepth 100000 in
theorem t_X10_stretch_42 {X : BX} {D : va_G} {cy : Nat → ClassId} {b : Nat} {r : Option Value} {μ' : MS} (hB : BB X D cy b yX10_stretch cX10_stretch 6 (some .int) rmX10_stretch) {l0 : Nat} {l1 : Int32} {l2 : Int32} {l3 : Int32} {s0 : Int32} {μ : MS} {z : ((Nat × Int32 × Int32 × Int32 × MS) ⊕ (Int32 × MS))} (hf : f_X10_stretch_42 l0 l1 l2 l3 s0 μ = some z) (hk : (Sum.elim (fun s : Nat × Int32 × Int32 × Int32 × MS => WW X D cy b r μ' 6 0 0 4 [(0, .ref (b + s.1)), (1, .int s.2.1), (2, .int s.2.2.1), (3, .int s.2.2.2.1)] [] s.2.2.2.2) (fun z : Int32 × MS => r = some (.int z.1) ∧ μ' = z.2)) z) : WW X D cy b r μ' 6 0 0 42 [(0, .ref (b + l0)), (1, .int l1), (2, .int l2), (3, .int l3)] [.int s0] μ := by
  unfold f_X10_stretch_42 at hf
  refine r_istore hB (by decide +kernel : decode cX10_stretch 42 = .ok (.istore 4, 2)) (by decide) rfl ?_
  refine ww_lv (lv' := [(4, .int s0), (0, .ref (b + l0)), (1, .int l1), (2, .int l2), (3, .int l3)]) rfl ?_
  refine r_aload_n hB 1 rfl (by decide +kernel : decode cX10_stretch 44 = .ok (.aload_n 0, 1)) rfl ?_
  refine r_gR hB cf10 0 (by decide) (own := "PulseRemote$Train") rfl (Or.inl k_199) (by decide +kernel) (by decide +kernel : decode cX10_stretch 45 = .ok (.getfield 9, 3)) hf (fun x45 hf => ?_)
  refine r_iload_n hB 4 rfl (by decide +kernel : decode cX10_stretch 48 = .ok (.iload_n 3, 1)) rfl ?_
  refine r_iald hB (by decide +kernel : decode cX10_stretch 49 = .ok (.iaload, 1)) hf (fun x49 hf => ?_)
  refine r_bipush hB (v := 100) (by decide +kernel : decode cX10_stretch 50 = .ok (.bipush 100, 2)) (by decide +kernel) ?_
  refine r_iload hB 0 rfl (by decide +kernel : decode cX10_stretch 52 = .ok (.iload 4, 2)) ?_
  refine r_iadd hB (by decide +kernel : decode cX10_stretch 54 = .ok (.iadd, 1)) ?_
  refine r_imul hB (by decide +kernel : decode cX10_stretch 55 = .ok (.imul, 1)) ?_
  refine r_bipush hB (v := 100) (by decide +kernel : decode cX10_stretch 56 = .ok (.bipush 100, 2)) (by decide +kernel) ?_
  refine r_idiv hB (by decide +kernel : decode cX10_stretch 58 = .ok (.idiv, 1)) hf (fun v58 hf => ?_)
  refine r_istore hB (by decide +kernel : decode cX10_stretch 59 = .ok (.istore 5, 2)) (by decide) rfl ?_
  refine ww_lv (lv' := [(5, .int v58), (4, .int s0), (0, .ref (b + l0)), (1, .int l1), (2, .int l2), (3, .int l3)]) rfl ?_
  refine r_iload hB 0 rfl (by decide +kernel : decode cX10_stretch 61 = .ok (.iload 5, 2)) ?_
  refine r_iconst hB (v := 1) (by decide +kernel : decode cX10_stretch 63 = .ok (.iconst 1, 1)) (by decide +kernel) ?_
  refine r_max hB (own := "PulseRemote$Train") rfl k_544 k_545 k_91 k_546 (by decide +kernel : decode cX10_stretch 64 = .ok (.invokestatic 31, 3)) (by decide) (Nat.le_of_ble_eq_true rfl) ?_
  refine r_ldc hB (v := 60000) (own := "PulseRemote$Train") rfl k_939 (by decide +kernel : decode cX10_stretch 67 = .ok (.ldc 37, 2)) ?_
  refine r_min hB (own := "PulseRemote$Train") rfl k_547 k_548 k_91 k_549 (by decide +kernel : decode cX10_stretch 69 = .ok (.invokestatic 38, 3)) (by decide) (Nat.le_of_ble_eq_true rfl) ?_
  refine r_name hf (fun v72 hf => ?_)
  refine r_istore hB (by decide +kernel : decode cX10_stretch 72 = .ok (.istore 5, 2)) (by decide) rfl ?_
  refine ww_lv (lv' := [(5, .int v72), (4, .int s0), (0, .ref (b + l0)), (1, .int l1), (2, .int l2), (3, .int l3)]) rfl ?_
  refine r_iload hB 0 rfl (by decide +kernel : decode cX10_stretch 74 = .ok (.iload 5, 2)) ?_
  refine r_aload_n hB 2 rfl (by decide +kernel : decode cX10_stretch 76 = .ok (.aload_n 0, 1)) rfl ?_
  refine r_gR hB cf10 0 (by decide) (own := "PulseRemote$Train") rfl (Or.inl k_199) (by decide +kernel) (by decide +kernel : decode cX10_stretch 77 = .ok (.getfield 9, 3)) hf (fun x77 hf => ?_)
  refine r_iload_n hB 5 rfl (by decide +kernel : decode cX10_stretch 80 = .ok (.iload_n 3, 1)) rfl ?_
  refine r_iald hB (by decide +kernel : decode cX10_stretch 81 = .ok (.iaload, 1)) hf (fun x81 hf => ?_)
  refine r_icmp_eq hB (tgt := 88) (by decide +kernel : decode cX10_stretch 82 = .ok (.if_icmp .eq 6, 3)) (by decide) hf (fun _ hf => ?_) (fun _ hf => ?_)
  · exact WW.sub [2, 3, 4, 5, 0] rfl (t_X10_stretch_88 hB hf hk)
  · refine r_iincB hB 4 rfl (by decide +kernel : decode cX10_stretch 85 = .ok (.iinc 2 1, 3)) (w := 1) (by decide +kernel) (by decide) hf (fun v85 hf => ?_)
    refine ww_lv (lv' := [(2, .int v85), (5, .int v72), (4, .int s0), (0, .ref (b + l0)), (1, .int l1), (3, .int l3)]) rfl ?_
    exact WW.sub [3, 4, 0, 5, 1] rfl (t_X10_stretch_88 hB hf hk)
set_option maxHeartbeats 4000000 in
set_option maxRecDepth 100000 in
theorem t_X10_stretch_4_b {X : BX} {D : va_G} {cy : Nat → ClassId} {b : Nat} {r : Option Value} {μ' : MS} (hB : BB X D cy b yX10_stretch cX10_stretch 6 (some .int) rmX10_stretch) {l0 : Nat} {l1 : Int32} {l2 : Int32} {l3 : Int32} {μ : MS} {z : ((Nat × Int32 × Int32 × Int32 × MS) ⊕ (Int32 × MS))} (hf : f_X10_stretch_4_b l0 l1 l2 l3 μ = some z) (hk : (Sum.elim (fun s : Nat × Int32 × Int32 × Int32 × MS => WW X D cy b r μ' 6 0 0 4 [(0, .ref (b + s.1)), (1, .int s.2.1), (2, .int s.2.2.1), (3, .int s.2.2.2.1)] [] s.2.2.2.2) (fun z : Int32 × MS => r = some (.int z.1) ∧ μ' = z.2)) z) : WW X D cy b r μ' 6 0 0 4 [(0, .ref (b + l0)), (1, .int l1), (2, .int l2), (3, .int l3)] [] μ := by
  unfold f_X10_stretch_4_b at hf
  refine r_iload_n hB 3 rfl (by decide +kernel : decode cX10_stretch 4 = .ok (.iload_n 3, 1)) rfl ?_
  refine r_aload_n hB 0 rfl (by decide +kernel : decode cX10_stretch 5 = .ok (.aload_n 0, 1)) rfl ?_
  refine r_gI hB cf10 1 (by decide) (own := "PulseRemote$Train") rfl (Or.inl k_200) (by decide +kernel) (by decide +kernel : decode cX10_stretch 6 = .ok (.getfield 15, 3)) hf (fun x6 hf => ?_)
  refine r_icmp_ge hB (tgt := 102) (by decide +kernel : decode cX10_stretch 9 = .ok (.if_icmp .ge 93, 3)) (by decide) hf (fun _ hf => ?_) (fun _ hf => ?_)
  · obtain ⟨_, hx0, rfl⟩ := xr_inv hf
    exact WW.sub [2] rfl (t_X10_stretch_102 hB hx0 hk)
  · refine r_iload_n hB 3 rfl (by decide +kernel : decode cX10_stretch 12 = .ok (.iload_n 3, 1)) rfl ?_
    refine r_sipush hB (v := 200) (by decide +kernel : decode cX10_stretch 13 = .ok (.sipush 200, 3)) (by decide +kernel) ?_
    refine r_icmp_ge hB (tgt := 102) (by decide +kernel : decode cX10_stretch 16 = .ok (.if_icmp .ge 86, 3)) (by decide) hf (fun _ hf => ?_) (fun _ hf => ?_)
    · obtain ⟨_, hx0, rfl⟩ := xr_inv hf
      exact WW.sub [2] rfl (t_X10_stretch_102 hB hx0 hk)
    · refine r_iload_n hB 3 rfl (by decide +kernel : decode cX10_stretch 19 = .ok (.iload_n 3, 1)) rfl ?_
      refine r_iconst hB (v := 3) (by decide +kernel : decode cX10_stretch 20 = .ok (.iconst 3, 1)) (by decide +kernel) ?_
      refine r_irem hB (by decide +kernel : decode cX10_stretch 21 = .ok (.irem, 1)) hf (fun v21 hf => ?_)
      refine r_if_ne hB (tgt := 30) (by decide +kernel : decode cX10_stretch 22 = .ok (.ifCond .ne 8, 3)) (by decide) hf (fun _ hf => ?_) (fun _ hf => ?_)
      · refine r_iload_n hB 1 rfl (by decide +kernel : decode cX10_stretch 25 = .ok (.iload_n 1, 1)) rfl ?_
        refine r_ineg hB (by decide +kernel : decode cX10_stretch 26 = .ok (.ineg, 1)) ?_
        refine r_goto hB (tgt := 42) (by decide +kernel : decode cX10_stretch 27 = .ok (.goto 15, 3)) (by decide) ?_
        exact WW.sub [0, 1, 2, 3] rfl (t_X10_stretch_42 hB hf hk)
      · refine r_iload_n hB 3 rfl (by decide +kernel : decode cX10_stretch 30 = .ok (.iload_n 3, 1)) rfl ?_
        refine r_iconst hB (v := 3) (by decide +kernel : decode cX10_stretch 31 = .ok (.iconst 3, 1)) (by decide +kernel) ?_
        refine r_irem hB (by decide +kernel : decode cX10_stretch 32 = .ok (.irem, 1)) hf (fun v32 hf => ?_)
        refine r_iconst hB (v := 1) (by decide +kernel : decode cX10_stretch 33 = .ok (.iconst 1, 1)) (by decide +kernel) ?_
        refine r_icmp_ne hB (tgt := 41) (by decide +kernel : decode cX10_stretch 34 = .ok (.if_icmp .ne 7, 3)) (by decide) hf (fun _ hf => ?_) (fun _ hf => ?_)
        · refine r_iconst hB (v := 0) (by decide +kernel : decode cX10_stretch 37 = .ok (.iconst 0, 1)) (by decide +kernel) ?_
          refine r_goto hB (tgt := 42) (by decide +kernel : decode cX10_stretch 38 = .ok (.goto 4, 3)) (by decide) ?_
          exact WW.sub [0, 1, 2, 3] rfl (t_X10_stretch_42 hB hf hk)
        · refine r_iload_n hB 1 rfl (by decide +kernel : decode cX10_stretch 41 = .ok (.iload_n 1, 1)) rfl ?_
          exact WW.sub [0, 1, 2, 3] rfl (t_X10_stretch_42 hB hf hk)
set_option maxHeartbeats 4000000 in
set_option maxRecDepth 100000 in
theorem t_X10_stretch_4 {X : BX} {D : va_G} {cy : Nat → ClassId} {b : Nat} {r : Option Value} {μ' : MS} (hB : BB X D cy b yX10_stretch cX10_stretch 6 (some .int) rmX10_stretch) {l0 : Nat} {l1 : Int32} {l2 : Int32} {l3 : Int32} {μ : MS} {z : (Int32 × MS)} (hf : f_X10_stretch_4 l0 l1 l2 l3 μ = some z) (hk : (fun z : Int32 × MS => r = some (.int z.1) ∧ μ' = z.2) z) : WW X D cy b r μ' 6 0 0 4 [(0, .ref (b + l0)), (1, .int l1), (2, .int l2), (3, .int l3)] [] μ :=
  lp_ind (P := fun s : Nat × Int32 × Int32 × Int32 × MS => WW X D cy b r μ' 6 0 0 4 [(0, .ref (b + s.1)), (1, .int s.2.1), (2, .int s.2.2.1), (3, .int s.2.2.2.1)] [] s.2.2.2.2) (Q := (fun z : Int32 × MS => r = some (.int z.1) ∧ μ' = z.2)) (fun s z hz hk => t_X10_stretch_4_b hB hz hk) (l0, l1, l2, l3, μ) z hf hk
set_option maxHeartbeats 4000000 in
set_option maxRecDepth 100000 in
theorem t_X10_stretch_0 {X : BX} {D : va_G} {cy : Nat → ClassId} {b : Nat} {r : Option Value} {μ' : MS} (hB : BB X D cy b yX10_stretch cX10_stretch 6 (some .int) rmX10_stretch) {l0 : Nat} {l1 : Int32} {μ : MS} {z : (Int32 × MS)} (hf : f_X10_stretch l0 l1 μ = some z) (hk : (fun z : Int32 × MS => r = some (.int z.1) ∧ μ' = z.2) z) : WW X D cy b r μ' 6 0 0 0 [(0, .ref (b + l0)), (1, .int l1)] [] μ := by
  unfold f_X10_stretch at hf
  refine r_iconst hB (v := 0) (by decide +kernel : decode cX10_stretch 0 = .ok (.iconst 0, 1)) (by decide +kernel) ?_
  refine r_istore_n hB (by decide +kernel : decode cX10_stretch 1 = .ok (.istore_n 2, 1)) rfl (by decide) rfl ?_
  refine ww_lv (lv' := [(2, .int 0), (0, .ref (b + l0)), (1, .int l1)]) rfl ?_
  refine r_iconst hB (v := 0) (by decide +kernel : decode cX10_stretch 2 = .ok (.iconst 0, 1)) (by decide +kernel) ?_
  refine r_istore_n hB (by decide +kernel : decode cX10_stretch 3 = .ok (.istore_n 3, 1)) rfl (by decide) rfl ?_
  refine ww_lv (lv' := [(3, .int 0), (2, .int 0), (0, .ref (b + l0)), (1, .int l1)]) rfl ?_
  exact WW.sub [2, 3, 1, 0] rfl (t_X10_stretch_4 hB hf hk)
theorem m_X10_stretch (l : Launch) (D : va_G) (cy : Nat → ClassId) (b : Nat) {l0 : Nat} {l1 : Int32} {μ : MS} {z : Int32 × MS} (hf : f_X10_stretch l0 l1 μ = some z) : Met l yX10_stretch (.code yX10_stretch cX10_stretch 6 (some .int) :: GW) rmX10_stretch (Pw D cy b [.ref (b + l0), .int l1] μ) (Qw D cy b (some (.int z.1)) (z.2)) rmX10_stretch.cells rmX10_stretch.slots (fun q => b ≤ q) :=
  met_of (by decide) (Nat.le_of_ble_eq_true rfl) (fun X hB _ => (t_X10_stretch_0 hB hf ⟨rfl, rfl⟩))
-- PulseRemote.distort(III)I
set_option maxHeartbeats 4000000 in
set_option maxRecDepth 100000 in
theorem t_X11_distort_50 {X : BX} {D : va_G} {cy : Nat → ClassId} {b : Nat} {r : Option Value} {μ' : MS} (hB : BB X D cy b yX11_distort cX11_distort 4 (some .int) rmX11_distort) {s0 : Int32} {s1 : Nat} {μ : MS} {z : (Int32 × MS)} (hf : f_X11_distort_50 s0 s1 μ = some z) (hk : (fun z : Int32 × MS => r = some (.int z.1) ∧ μ' = z.2) z) : WW X D cy b r μ' 4 0 0 50 [] [.int s0, .ref (b + s1)] μ := by
  unfold f_X11_distort_50 at hf
  refine r_cVi hB [.int s0] [] cf10 (own := "PulseRemote") rfl cmX10_stretch imX10_stretch (Or.inl k_935) (by decide) rfl rfl rfl (Nat.le_of_ble_eq_true rfl) (by decide +kernel : decode cX11_distort 50 = .ok (.invokevirtual 280, 3)) (fun z hz => m_X10_stretch _ _ _ _ hz) rfl hf (fun z50 hf => ?_)
  obtain rfl := Option.some.inj hf
  obtain ⟨rfl, rfl⟩ := hk
  exact r_iret hB (by decide +kernel : decode cX11_distort 53 = .ok (.ireturn, 1))
set_option maxHeartbeats 4000000 in
set_option maxRecDepth 100000 in
theorem t_X11_distort_0 {X : BX} {D : va_G} {cy : Nat → ClassId} {b : Nat} {r : Option Value} {μ' : MS} (hB : BB X D cy b yX11_distort cX11_distort 4 (some .int) rmX11_distort) {l0 : Nat} {l1 : Int32} {l2 : Int32} {l3 : Int32} {μ : MS} {z : (Int32 × MS)} (hf : f_X11_distort l0 l1 l2 l3 μ = some z) (hk : (fun z : Int32 × MS => r = some (.int z.1) ∧ μ' = z.2) z) : WW X D cy b r μ' 4 0 0 0 [(0, .ref (b + l0)), (1, .int l1), (2, .int l2), (3, .int l3)] [] μ := by
  unfold f_X11_distort at hf
  refine r_iload_n hB 1 rfl (by decide +kernel : decode cX11_distort 0 = .ok (.iload_n 1, 1)) rfl ?_
  refine r_cSi hB [.int l1] [] (own := "PulseRemote") rfl cmX11_isSlot smX11_isSlot (Or.inl ⟨rfl, k_589⟩) (by decide) rfl rfl rfl (Nat.le_of_ble_eq_true rfl) (by decide +kernel : decode cX11_distort 1 = .ok (.invokestatic 156, 3)) (fun z hz => m_X11_isSlot _ _ _ _ hz) rfl hf (fun z1 hf => ?_)
  refine r_if_eq hB (tgt := 26) (by decide +kernel : decode cX11_distort 4 = .ok (.ifCond .eq 22, 3)) (by decide) hf (fun _ hf => ?_) (fun _ hf => ?_)
  · refine r_iconst hB (v := (-1)) (by decide +kernel : decode cX11_distort 26 = .ok (.iconst (-1), 1)) (by decide +kernel) ?_
    obtain rfl := Option.some.inj hf
    obtain ⟨rfl, rfl⟩ := hk
    exact r_iret hB (by decide +kernel : decode cX11_distort 27 = .ok (.ireturn, 1))
  · refine r_iload_n hB 2 rfl (by decide +kernel : decode cX11_distort 7 = .ok (.iload_n 2, 1)) rfl ?_
    refine r_iconst hB (v := 0) (by decide +kernel : decode cX11_distort 8 = .ok (.iconst 0, 1)) (by decide +kernel) ?_
    refine r_bipush hB (v := 30) (by decide +kernel : decode cX11_distort 9 = .ok (.bipush 30, 2)) (by decide +kernel) ?_
    refine r_cSi hB [.int l2, .int 0, .int 30] [] (own := "PulseRemote") rfl cmX11_inRange smX11_inRange (Or.inl ⟨rfl, k_506⟩) (by decide) rfl rfl rfl (Nat.le_of_ble_eq_true rfl) (by decide +kernel : decode cX11_distort 11 = .ok (.invokestatic 80, 3)) (fun z hz => m_X11_inRange _ _ _ _ hz) rfl hf (fun z11 hf => ?_)
    refine r_if_eq hB (tgt := 26) (by decide +kernel : decode cX11_distort 14 = .ok (.ifCond .eq 12, 3)) (by decide) hf (fun _ hf => ?_) (fun _ hf => ?_)
    · refine r_iconst hB (v := (-1)) (by decide +kernel : decode cX11_distort 26 = .ok (.iconst (-1), 1)) (by decide +kernel) ?_
      obtain rfl := Option.some.inj hf
      obtain ⟨rfl, rfl⟩ := hk
      exact r_iret hB (by decide +kernel : decode cX11_distort 27 = .ok (.ireturn, 1))
    · refine r_iload_n hB 3 rfl (by decide +kernel : decode cX11_distort 17 = .ok (.iload_n 3, 1)) rfl ?_
      refine r_iconst hB (v := 0) (by decide +kernel : decode cX11_distort 18 = .ok (.iconst 0, 1)) (by decide +kernel) ?_
      refine r_iconst hB (v := 1) (by decide +kernel : decode cX11_distort 19 = .ok (.iconst 1, 1)) (by decide +kernel) ?_
      refine r_cSi hB [.int l3, .int 0, .int 1] [] (own := "PulseRemote") rfl cmX11_inRange smX11_inRange (Or.inl ⟨rfl, k_506⟩) (by decide) rfl rfl rfl (Nat.le_of_ble_eq_true rfl) (by decide +kernel : decode cX11_distort 20 = .ok (.invokestatic 80, 3)) (fun z hz => m_X11_inRange _ _ _ _ hz) rfl hf (fun z20 hf => ?_)
      refine r_if_ne hB (tgt := 28) (by decide +kernel : decode cX11_distort 23 = .ok (.ifCond .ne 5, 3)) (by decide) hf (fun _ hf => ?_) (fun _ hf => ?_)
      · refine r_iconst hB (v := (-1)) (by decide +kernel : decode cX11_distort 26 = .ok (.iconst (-1), 1)) (by decide +kernel) ?_
        obtain rfl := Option.some.inj hf
        obtain ⟨rfl, rfl⟩ := hk
        exact r_iret hB (by decide +kernel : decode cX11_distort 27 = .ok (.ireturn, 1))
      · refine r_aload_n hB 0 rfl (by decide +kernel : decode cX11_distort 28 = .ok (.aload_n 0, 1)) rfl ?_
        refine r_cVv hB [] [] cf11 (own := "PulseRemote") rfl cmX11_saveState imX11_saveState (Or.inl k_513) (by decide) rfl rfl rfl (Nat.le_of_ble_eq_true rfl) (by decide +kernel : decode cX11_distort 29 = .ok (.invokevirtual 91, 3)) (fun z hz => m_X11_saveState _ _ _ _ hz) rfl hf (fun z29 hf => ?_)
        refine r_aload_n hB 0 rfl (by decide +kernel : decode cX11_distort 32 = .ok (.aload_n 0, 1)) rfl ?_
        refine r_gR hB cf11 0 (by decide) (own := "PulseRemote") rfl (Or.inl k_465) (by decide +kernel) (by decide +kernel : decode cX11_distort 33 = .ok (.getfield 12, 3)) hf (fun x33 hf => ?_)
        refine r_iload_n hB 1 rfl (by decide +kernel : decode cX11_distort 36 = .ok (.iload_n 1, 1)) rfl ?_
        refine r_cVr hB [.int l1] [] cf7 (own := "PulseRemote") rfl cmX7_trainAt imX7_trainAt (Or.inl k_592) (by decide) rfl rfl rfl (Nat.le_of_ble_eq_true rfl) (by decide +kernel : decode cX11_distort 37 = .ok (.invokevirtual 159, 3)) (fun z hz => m_X7_trainAt _ _ _ _ hz) rfl hf (fun z37 hf => ?_)
        refine r_iload_n hB 3 rfl (by decide +kernel : decode cX11_distort 40 = .ok (.iload_n 3, 1)) rfl ?_
        refine r_if_ne hB (tgt := 48) (by decide +kernel : decode cX11_distort 41 = .ok (.ifCond .ne 7, 3)) (by decide) hf (fun _ hf => ?_) (fun _ hf => ?_)
        · refine r_iload_n hB 2 rfl (by decide +kernel : decode cX11_distort 44 = .ok (.iload_n 2, 1)) rfl ?_
          refine r_goto hB (tgt := 50) (by decide +kernel : decode cX11_distort 45 = .ok (.goto 5, 3)) (by decide) ?_
          exact WW.sub [] rfl (t_X11_distort_50 hB hf hk)
        · refine r_iload_n hB 2 rfl (by decide +kernel : decode cX11_distort 48 = .ok (.iload_n 2, 1)) rfl ?_
          refine r_ineg hB (by decide +kernel : decode cX11_distort 49 = .ok (.ineg, 1)) ?_
          exact WW.sub [] rfl (t_X11_distort_50 hB hf hk)
theorem m_X11_distort (l : Launch) (D : va_G) (cy : Nat → ClassId) (b : Nat) {l0 : Nat} {l1 : Int32} {l2 : Int32} {l3 : Int32} {μ : MS} {z : Int32 × MS} (hf : f_X11_distort l0 l1 l2 l3 μ = some z) : Met l yX11_distort (.code yX11_distort cX11_distort 4 (some .int) :: GW) rmX11_distort (Pw D cy b [.ref (b + l0), .int l1, .int l2, .int l3] μ) (Qw D cy b (some (.int z.1)) (z.2)) rmX11_distort.cells rmX11_distort.slots (fun q => b ≤ q) :=
  met_of (by decide) (Nat.le_of_ble_eq_true rfl) (fun X hB _ => (t_X11_distort_0 hB hf ⟨rfl, rfl⟩))
-- PulseRemote.duration(II)I
set_option maxHeartbeats 4000000 in
set_option maxRecDepth 100000 in
theorem t_X11_duration_0 {X : BX} {D : va_G} {cy : Nat → ClassId} {b : Nat} {r : Option Value} {μ' : MS} (hB : BB X D cy b yX11_duration cX11_duration 4 (some .int) rmX11_duration) {l0 : Nat} {l1 : Int32} {l2 : Int32} {μ : MS} {z : (Int32 × MS)} (hf : f_X11_duration l0 l1 l2 μ = some z) (hk : (fun z : Int32 × MS => r = some (.int z.1) ∧ μ' = z.2) z) : WW X D cy b r μ' 4 0 0 0 [(0, .ref (b + l0)), (1, .int l1), (2, .int l2)] [] μ := by
  unfold f_X11_duration at hf
  refine r_iload_n hB 1 rfl (by decide +kernel : decode cX11_duration 0 = .ok (.iload_n 1, 1)) rfl ?_
  refine r_cSi hB [.int l1] [] (own := "PulseRemote") rfl cmX11_isSlot smX11_isSlot (Or.inl ⟨rfl, k_589⟩) (by decide) rfl rfl rfl (Nat.le_of_ble_eq_true rfl) (by decide +kernel : decode cX11_duration 1 = .ok (.invokestatic 156, 3)) (fun z hz => m_X11_isSlot _ _ _ _ hz) rfl hf (fun z1 hf => ?_)
  refine r_if_eq hB (tgt := 11) (by decide +kernel : decode cX11_duration 4 = .ok (.ifCond .eq 7, 3)) (by decide) hf (fun _ hf => ?_) (fun _ hf => ?_)
  · refine r_iconst hB (v := (-1)) (by decide +kernel : decode cX11_duration 11 = .ok (.iconst (-1), 1)) (by decide +kernel) ?_
    obtain rfl := Option.some.inj hf
    obtain ⟨rfl, rfl⟩ := hk
    exact r_iret hB (by decide +kernel : decode cX11_duration 12 = .ok (.ireturn, 1))
  · refine r_iload_n hB 2 rfl (by decide +kernel : decode cX11_duration 7 = .ok (.iload_n 2, 1)) rfl ?_
    refine r_if_ge hB (tgt := 13) (by decide +kernel : decode cX11_duration 8 = .ok (.ifCond .ge 5, 3)) (by decide) hf (fun _ hf => ?_) (fun _ hf => ?_)
    · refine r_aload_n hB 0 rfl (by decide +kernel : decode cX11_duration 13 = .ok (.aload_n 0, 1)) rfl ?_
      refine r_gR hB cf11 0 (by decide) (own := "PulseRemote") rfl (Or.inl k_465) (by decide +kernel) (by decide +kernel : decode cX11_duration 14 = .ok (.getfield 12, 3)) hf (fun x14 hf => ?_)
      refine r_iload_n hB 1 rfl (by decide +kernel : decode cX11_duration 17 = .ok (.iload_n 1, 1)) rfl ?_
      refine r_cVr hB [.int l1] [] cf7 (own := "PulseRemote") rfl cmX7_trainAt imX7_trainAt (Or.inl k_592) (by decide) rfl rfl rfl (Nat.le_of_ble_eq_true rfl) (by decide +kernel : decode cX11_duration 18 = .ok (.invokevirtual 159, 3)) (fun z hz => m_X7_trainAt _ _ _ _ hz) rfl hf (fun z18 hf => ?_)
      refine r_astore_n hB (by decide +kernel : decode cX11_duration 21 = .ok (.astore_n 3, 1)) rfl (by decide) rfl ?_
      refine ww_lv (lv' := [(3, .ref (b + z18.1)), (0, .ref (b + l0)), (1, .int l1), (2, .int l2)]) rfl ?_
      refine r_iload_n hB 3 rfl (by decide +kernel : decode cX11_duration 22 = .ok (.iload_n 2, 1)) rfl ?_
      refine r_aload_n hB 0 rfl (by decide +kernel : decode cX11_duration 23 = .ok (.aload_n 3, 1)) rfl ?_
      refine r_gI hB cf10 1 (by decide) (own := "PulseRemote") rfl (Or.inr ⟨_, k_204⟩) (by decide +kernel) (by decide +kernel : decode cX11_duration 24 = .ok (.getfield 244, 3)) hf (fun x24 hf => ?_)
      refine r_icmp_ge hB (tgt := 38) (by decide +kernel : decode cX11_duration 27 = .ok (.if_icmp .ge 11, 3)) (by decide) hf (fun _ hf => ?_) (fun _ hf => ?_)
      · refine r_bipush hB (v := (-9)) (by decide +kernel : decode cX11_duration 38 = .ok (.bipush (-9), 2)) (by decide +kernel) ?_
        obtain rfl := Option.some.inj hf
        obtain ⟨rfl, rfl⟩ := hk
        exact r_iret hB (by decide +kernel : decode cX11_duration 40 = .ok (.ireturn, 1))
      · refine r_aload_n hB 0 rfl (by decide +kernel : decode cX11_duration 30 = .ok (.aload_n 3, 1)) rfl ?_
        refine r_iload_n hB 3 rfl (by decide +kernel : decode cX11_duration 31 = .ok (.iload_n 2, 1)) rfl ?_
        refine r_cVi hB [.int l2] [] cf10 (own := "PulseRemote") rfl cmX10_at imX10_at (Or.inl k_884) (by decide) rfl rfl rfl (Nat.le_of_ble_eq_true rfl) (by decide +kernel : decode cX11_duration 32 = .ok (.invokevirtual 283, 3)) (fun z hz => m_X10_at _ _ _ _ hz) rfl hf (fun z32 hf => ?_)
        refine r_goto hB (tgt := 40) (by decide +kernel : decode cX11_duration 35 = .ok (.goto 5, 3)) (by decide) ?_
        obtain rfl := Option.some.inj hf
        obtain ⟨rfl, rfl⟩ := hk
        exact r_iret hB (by decide +kernel : decode cX11_duration 40 = .ok (.ireturn, 1))
    · refine r_iconst hB (v := (-1)) (by decide +kernel : decode cX11_duration 11 = .ok (.iconst (-1), 1)) (by decide +kernel) ?_
      obtain rfl := Option.some.inj hf
      obtain ⟨rfl, rfl⟩ := hk
      exact r_iret hB (by decide +kernel : decode cX11_duration 12 = .ok (.ireturn, 1))
theorem m_X11_duration (l : Launch) (D : va_G) (cy : Nat → ClassId) (b : Nat) {l0 : Nat} {l1 : Int32} {l2 : Int32} {μ : MS} {z : Int32 × MS} (hf : f_X11_duration l0 l1 l2 μ = some z) : Met l yX11_duration (.code yX11_duration cX11_duration 4 (some .int) :: GW) rmX11_duration (Pw D cy b [.ref (b + l0), .int l1, .int l2] μ) (Qw D cy b (some (.int z.1)) (z.2)) rmX11_duration.cells rmX11_duration.slots (fun q => b ≤ q) :=
  met_of (by decide) (Nat.le_of_ble_eq_true rfl) (fun X hB _ => (t_X11_duration_0 hB hf ⟨rfl, rfl⟩))
-- PulseRemote.length(I)I
set_option maxHeartbeats 4000000 in
set_option maxRecDepth 100000 in
theorem t_X11_length_0 {X : BX} {D : va_G} {cy : Nat → ClassId} {b : Nat} {r : Option Value} {μ' : MS} (hB : BB X D cy b yX11_length cX11_length 2 (some .int) rmX11_length) {l0 : Nat} {l1 : Int32} {μ : MS} {z : (Int32 × MS)} (hf : f_X11_length l0 l1 μ = some z) (hk : (fun z : Int32 × MS => r = some (.int z.1) ∧ μ' = z.2) z) : WW X D cy b r μ' 2 0 0 0 [(0, .ref (b + l0)), (1, .int l1)] [] μ := by
  unfold f_X11_length at hf
  refine r_iload_n hB 1 rfl (by decide +kernel : decode cX11_length 0 = .ok (.iload_n 1, 1)) rfl ?_
  refine r_cSi hB [.int l1] [] (own := "PulseRemote") rfl cmX11_isSlot smX11_isSlot (Or.inl ⟨rfl, k_589⟩) (by decide) rfl rfl rfl (Nat.le_of_ble_eq_true rfl) (by decide +kernel : decode cX11_length 1 = .ok (.invokestatic 156, 3)) (fun z hz => m_X11_isSlot _ _ _ _ hz) rfl hf (fun z1 hf => ?_)
  refine r_if_eq hB (tgt := 21) (by decide +kernel : decode cX11_length 4 = .ok (.ifCond .eq 17, 3)) (by decide) hf (fun _ hf => ?_) (fun _ hf => ?_)
  · refine r_iconst hB (v := (-1)) (by decide +kernel : decode cX11_length 21 = .ok (.iconst (-1), 1)) (by decide +kernel) ?_
    obtain rfl := Option.some.inj hf
    obtain ⟨rfl, rfl⟩ := hk
    exact r_iret hB (by decide +kernel : decode cX11_length 22 = .ok (.ireturn, 1))
  · refine r_aload_n hB 0 rfl (by decide +kernel : decode cX11_length 7 = .ok (.aload_n 0, 1)) rfl ?_
    refine r_gR hB cf11 0 (by decide) (own := "PulseRemote") rfl (Or.inl k_465) (by decide +kernel) (by decide +kernel : decode cX11_length 8 = .ok (.getfield 12, 3)) hf (fun x8 hf => ?_)
    refine r_iload_n hB 1 rfl (by decide +kernel : decode cX11_length 11 = .ok (.iload_n 1, 1)) rfl ?_
    refine r_cVr hB [.int l1] [] cf7 (own := "PulseRemote") rfl cmX7_trainAt imX7_trainAt (Or.inl k_592) (by decide) rfl rfl rfl (Nat.le_of_ble_eq_true rfl) (by decide +kernel : decode cX11_length 12 = .ok (.invokevirtual 159, 3)) (fun z hz => m_X7_trainAt _ _ _ _ hz) rfl hf (fun z12 hf => ?_)
    refine r_gI hB cf10 1 (by decide) (own := "PulseRemote") rfl (Or.inr ⟨_, k_204⟩) (by decide +kernel) (by decide +kernel : decode cX11_length 15 = .ok (.getfield 244, 3)) hf (fun x15 hf => ?_)
    refine r_goto hB (tgt := 22) (by decide +kernel : decode cX11_length 18 = .ok (.goto 4, 3)) (by decide) ?_
    obtain rfl := Option.some.inj hf
    obtain ⟨rfl, rfl⟩ := hk
    exact r_iret hB (by decide +kernel : decode cX11_length 22 = .ok (.ireturn, 1))
theorem m_X11_length (l : Launch) (D : va_G) (cy : Nat → ClassId) (b : Nat) {l0 : Nat} {l1 : Int32} {μ : MS} {z : Int32 × MS} (hf : f_X11_length l0 l1 μ = some z) : Met l yX11_length (.code yX11_length cX11_length 2 (some .int) :: GW) rmX11_length (Pw D cy b [.ref (b + l0), .int l1] μ) (Qw D cy b (some (.int z.1)) (z.2)) rmX11_length.cells rmX11_length.slots (fun q => b ≤ q) :=
  met_of (by decide) (Nat.le_of_ble_eq_true rfl) (fun X hB _ => (t_X11_length_0 hB hf ⟨rfl, rfl⟩))
-- PulseRemote.frameCount(I)I
set_option maxHeartbeats 4000000 in
set_option maxRecDepth 100000 in
theorem t_X11_frameCount_0 {X : BX} {D : va_G} {cy : Nat → ClassId} {b : Nat} {r : Option Value} {μ' : MS} (hB : BB X D cy b yX11_frameCount cX11_frameCount 2 (some .int) rmX11_frameCount) {l0 : Nat} {l1 : Int32} {μ : MS} {z : (Int32 × MS)} (hf : f_X11_frameCount l0 l1 μ = some z) (hk : (fun z : Int32 × MS => r = some (.int z.1) ∧ μ' = z.2) z) : WW X D cy b r μ' 2 0 0 0 [(0, .ref (b + l0)), (1, .int l1)] [] μ := by
  unfold f_X11_frameCount at hf
  refine r_iload_n hB 1 rfl (by decide +kernel : decode cX11_frameCount 0 = .ok (.iload_n 1, 1)) rfl ?_
  refine r_cSi hB [.int l1] [] (own := "PulseRemote") rfl cmX11_isSlot smX11_isSlot (Or.inl ⟨rfl, k_589⟩) (by decide) rfl rfl rfl (Nat.le_of_ble_eq_true rfl) (by decide +kernel : decode cX11_frameCount 1 = .ok (.invokestatic 156, 3)) (fun z hz => m_X11_isSlot _ _ _ _ hz) rfl hf (fun z1 hf => ?_)
  refine r_if_ne hB (tgt := 9) (by decide +kernel : decode cX11_frameCount 4 = .ok (.ifCond .ne 5, 3)) (by decide) hf (fun _ hf => ?_) (fun _ hf => ?_)
  · refine r_iconst hB (v := (-1)) (by decide +kernel : decode cX11_frameCount 7 = .ok (.iconst (-1), 1)) (by decide +kernel) ?_
    obtain rfl := Option.some.inj hf
    obtain ⟨rfl, rfl⟩ := hk
    exact r_iret hB (by decide +kernel : decode cX11_frameCount 8 = .ok (.ireturn, 1))
  · refine r_aload_n hB 0 rfl (by decide +kernel : decode cX11_frameCount 9 = .ok (.aload_n 0, 1)) rfl ?_
    refine r_gR hB cf11 7 (by decide) (own := "PulseRemote") rfl (Or.inl k_472) (by decide +kernel) (by decide +kernel : decode cX11_frameCount 10 = .ok (.getfield 48, 3)) hf (fun x10 hf => ?_)
    refine r_aload_n hB 0 rfl (by decide +kernel : decode cX11_frameCount 13 = .ok (.aload_n 0, 1)) rfl ?_
    refine r_gR hB cf11 0 (by decide) (own := "PulseRemote") rfl (Or.inl k_465) (by decide +kernel) (by decide +kernel : decode cX11_frameCount 14 = .ok (.getfield 12, 3)) hf (fun x14 hf => ?_)
    refine r_iload_n hB 1 rfl (by decide +kernel : decode cX11_frameCount 17 = .ok (.iload_n 1, 1)) rfl ?_
    refine r_cVr hB [.int l1] [.ref (b + x10)] cf7 (own := "PulseRemote") rfl cmX7_trainAt imX7_trainAt (Or.inl k_592) (by decide) rfl rfl rfl (Nat.le_of_ble_eq_true rfl) (by decide +kernel : decode cX11_frameCount 18 = .ok (.invokevirtual 159, 3)) (fun z hz => m_X7_trainAt _ _ _ _ hz) rfl hf (fun z18 hf => ?_)
    refine r_aload_n hB 0 rfl (by decide +kernel : decode cX11_frameCount 21 = .ok (.aload_n 0, 1)) rfl ?_
    refine r_gR hB cf11 0 (by decide) (own := "PulseRemote") rfl (Or.inl k_465) (by decide +kernel) (by decide +kernel : decode cX11_frameCount 22 = .ok (.getfield 12, 3)) hf (fun x22 hf => ?_)
    refine r_gI hB cf7 2 (by decide) (own := "PulseRemote") rfl (Or.inr ⟨_, k_216⟩) (by decide +kernel) (by decide +kernel : decode cX11_frameCount 25 = .ok (.getfield 163, 3)) hf (fun x25 hf => ?_)
    refine r_cVv hB [.ref (b + z18.1), .int x25] [] cf3 (own := "PulseRemote") rfl cmX3_split imX3_split (Or.inl k_597) (by decide) rfl rfl rfl (Nat.le_of_ble_eq_true rfl) (by decide +kernel : decode cX11_frameCount 28 = .ok (.invokevirtual 166, 3)) (fun z hz => m_X3_split _ _ _ _ hz) rfl hf (fun z28 hf => ?_)
    refine r_aload_n hB 0 rfl (by decide +kernel : decode cX11_frameCount 31 = .ok (.aload_n 0, 1)) rfl ?_
    refine r_gR hB cf11 7 (by decide) (own := "PulseRemote") rfl (Or.inl k_472) (by decide +kernel) (by decide +kernel : decode cX11_frameCount 32 = .ok (.getfield 48, 3)) hf (fun x32 hf => ?_)
    refine r_gI hB cf3 2 (by decide) (own := "PulseRemote") rfl (Or.inr ⟨_, k_277⟩) (by decide +kernel) (by decide +kernel : decode cX11_frameCount 35 = .ok (.getfield 286, 3)) hf (fun x35 hf => ?_)
    obtain rfl := Option.some.inj hf
    obtain ⟨rfl, rfl⟩ := hk
    exact r_iret hB (by decide +kernel : decode cX11_frameCount 38 = .ok (.ireturn, 1))
theorem m_X11_frameCount (l : Launch) (D : va_G) (cy : Nat → ClassId) (b : Nat) {l0 : Nat} {l1 : Int32} {μ : MS} {z : Int32 × MS} (hf : f_X11_frameCount l0 l1 μ = some z) : Met l yX11_frameCount (.code yX11_frameCount cX11_frameCount 2 (some .int) :: GW) rmX11_frameCount (Pw D cy b [.ref (b + l0), .int l1] μ) (Qw D cy b (some (.int z.1)) (z.2)) rmX11_frameCount.cells rmX11_frameCount.slots (fun q => b ≤ q) :=
  met_of (by decide) (Nat.le_of_ble_eq_true rfl) (fun X hB _ => (t_X11_frameCount_0 hB hf ⟨rfl, rfl⟩))
-- PulseRemote$Decoder.take(LPulseRemote$FrameList;I)Z
set_option maxHeartbeats 4000000 in
set_option maxRecDepth 100000 in
theorem t_X2_take_48 {X : BX} {D : va_G} {cy : Nat → ClassId} {b : Nat} {r : Option Value} {μ' : MS} (hB : BB X D cy b yX2_take cX2_take 4 (some .boolean) rmX2_take)  {μ : MS} {z : (Int32 × MS)} (hf : f_X2_take_48  μ = some z) (hk : (fun z : Int32 × MS => r = some (.int z.1) ∧ μ' = z.2) z) : WW X D cy b r μ' 4 0 0 48 [] [] μ := by
  unfold f_X2_take_48 at hf
  refine r_iconst hB (v := 1) (by decide +kernel : decode cX2_take 48 = .ok (.iconst 1, 1)) (by decide +kernel) ?_
  obtain rfl := Option.some.inj hf
  obtain ⟨rfl, rfl⟩ := hk
  exact r_zret hB (Or.inr rfl) (by decide +kernel : decode cX2_take 49 = .ok (.ireturn, 1))
set_option maxHeartbeats 4000000 in
set_option maxRecDepth 100000 in
theorem t_X2_take_22_b {X : BX} {D : va_G} {cy : Nat → ClassId} {b : Nat} {r : Option Value} {μ' : MS} (hB : BB X D cy b yX2_take cX2_take 4 (some .boolean) rmX2_take) {l0 : Nat} {l1 : Nat} {l2 : Int32} {l3 : Int32} {μ : MS} {z : ((Nat × Nat × Int32 × Int32 × MS) ⊕ (Int32 × MS))} (hf : f_X2_take_22_b l0 l1 l2 l3 μ = some z) (hk : (Sum.elim (fun s : Nat × Nat × Int32 × Int32 × MS => WW X D cy b r μ' 4 0 0 22 [(0, .ref (b + s.1)), (1, .ref (b + s.2.1)), (2, .int s.2.2.1), (3, .int s.2.2.2.1)] [] s.2.2.2.2) (fun z : Int32 × MS => r = some (.int z.1) ∧ μ' = z.2)) z) : WW X D cy b r μ' 4 0 0 22 [(0, .ref (b + l0)), (1, .ref (b + l1)), (2, .int l2), (3, .int l3)] [] μ := by
  unfold f_X2_take_22_b at hf
  refine r_iload_n hB 3 rfl (by decide +kernel : decode cX2_take 22 = .ok (.iload_n 3, 1)) rfl ?_
  refine r_aload_n hB 0 rfl (by decide +kernel : decode cX2_take 23 = .ok (.aload_n 0, 1)) rfl ?_
  refine r_gI hB cf2 3 (by decide) (own := "PulseRemote$Decoder") rfl (Or.inl k_301) (by decide +kernel) (by decide +kernel : decode cX2_take 24 = .ok (.getfield 64, 3)) hf (fun x24 hf => ?_)
  refine r_icmp_ge hB (tgt := 48) (by decide +kernel : decode cX2_take 27 = .ok (.if_icmp .ge 21, 3)) (by decide) hf (fun _ hf => ?_) (fun _ hf => ?_)
  · obtain ⟨_, hx0, rfl⟩ := xr_inv hf
    exact WW.sub [] rfl (t_X2_take_48 hB hx0 hk)
  · refine r_aload_n hB 0 rfl (by decide +kernel : decode cX2_take 30 = .ok (.aload_n 0, 1)) rfl ?_
    refine r_gR hB cf2 2 (by decide) (own := "PulseRemote$Decoder") rfl (Or.inl k_300) (by decide +kernel) (by decide +kernel : decode cX2_take 31 = .ok (.getfield 18, 3)) hf (fun x31 hf => ?_)
    refine r_iload_n hB 3 rfl (by decide +kernel : decode cX2_take 34 = .ok (.iload_n 3, 1)) rfl ?_
    refine r_aload_n hB 1 rfl (by decide +kernel : decode cX2_take 35 = .ok (.aload_n 1, 1)) rfl ?_
    refine r_iload_n hB 2 rfl (by decide +kernel : decode cX2_take 36 = .ok (.iload_n 2, 1)) rfl ?_
    refine r_iload_n hB 3 rfl (by decide +kernel : decode cX2_take 37 = .ok (.iload_n 3, 1)) rfl ?_
    refine r_cVi hB [.int l2, .int l3] [.int l3, .ref (b + x31)] cf3 (own := "PulseRemote$Decoder") rfl cmX3_durationAt imX3_durationAt (Or.inl k_967) (by decide) rfl rfl rfl (Nat.le_of_ble_eq_true rfl) (by decide +kernel : decode cX2_take 38 = .ok (.invokevirtual 67, 3)) (fun z hz => m_X3_durationAt _ _ _ _ hz) rfl hf (fun z38 hf => ?_)
    refine r_iast hB (by decide +kernel : decode cX2_take 41 = .ok (.iastore, 1)) hf (fun m41 hf => ?_)
    refine r_iincB hB 3 rfl (by decide +kernel : decode cX2_take 42 = .ok (.iinc 3 1, 3)) (w := 1) (by decide +kernel) (by decide) hf (fun v42 hf => ?_)
    refine ww_lv (lv' := [(3, .int v42), (0, .ref (b + l0)), (1, .ref (b + l1)), (2, .int l2)]) rfl ?_
    refine r_goto hB (tgt := 22) (by decide +kernel : decode cX2_take 45 = .ok (.goto (-23), 3)) (by decide) ?_
    obtain rfl := Option.some.inj hf
    exact WW.sub [1, 2, 3, 0] rfl hk
set_option maxHeartbeats 4000000 in
set_option maxRecDepth 100000 in
theorem t_X2_take_22 {X : BX} {D : va_G} {cy : Nat → ClassId} {b : Nat} {r : Option Value} {μ' : MS} (hB : BB X D cy b yX2_take cX2_take 4 (some .boolean) rmX2_take) {l0 : Nat} {l1 : Nat} {l2 : Int32} {l3 : Int32} {μ : MS} {z : (Int32 × MS)} (hf : f_X2_take_22 l0 l1 l2 l3 μ = some z) (hk : (fun z : Int32 × MS => r = some (.int z.1) ∧ μ' = z.2) z) : WW X D cy b r μ' 4 0 0 22 [(0, .ref (b + l0)), (1, .ref (b + l1)), (2, .int l2), (3, .int l3)] [] μ :=
  lp_ind (P := fun s : Nat × Nat × Int32 × Int32 × MS => WW X D cy b r μ' 4 0 0 22 [(0, .ref (b + s.1)), (1, .ref (b + s.2.1)), (2, .int s.2.2.1), (3, .int s.2.2.2.1)] [] s.2.2.2.2) (Q := (fun z : Int32 × MS => r = some (.int z.1) ∧ μ' = z.2)) (fun s z hz hk => t_X2_take_22_b hB hz hk) (l0, l1, l2, l3, μ) z hf hk
set_option maxHeartbeats 4000000 in
set_option maxRecDepth 100000 in
theorem t_X2_take_0 {X : BX} {D : va_G} {cy : Nat → ClassId} {b : Nat} {r : Option Value} {μ' : MS} (hB : BB X D cy b yX2_take cX2_take 4 (some .boolean) rmX2_take) {l0 : Nat} {l1 : Nat} {l2 : Int32} {μ : MS} {z : (Int32 × MS)} (hf : f_X2_take l0 l1 l2 μ = some z) (hk : (fun z : Int32 × MS => r = some (.int z.1) ∧ μ' = z.2) z) : WW X D cy b r μ' 4 0 0 0 [(0, .ref (b + l0)), (1, .ref (b + l1)), (2, .int l2)] [] μ := by
  unfold f_X2_take at hf
  refine r_aload_n hB 0 rfl (by decide +kernel : decode cX2_take 0 = .ok (.aload_n 0, 1)) rfl ?_
  refine r_aload_n hB 1 rfl (by decide +kernel : decode cX2_take 1 = .ok (.aload_n 1, 1)) rfl ?_
  refine r_iload_n hB 2 rfl (by decide +kernel : decode cX2_take 2 = .ok (.iload_n 2, 1)) rfl ?_
  refine r_cVi hB [.int l2] [.ref (b + l0)] cf3 (own := "PulseRemote$Decoder") rfl cmX3_sizeOf imX3_sizeOf (Or.inl k_966) (by decide) rfl rfl rfl (Nat.le_of_ble_eq_true rfl) (by decide +kernel : decode cX2_take 3 = .ok (.invokevirtual 58, 3)) (fun z hz => m_X3_sizeOf _ _ _ _ hz) rfl hf (fun z3 hf => ?_)
  refine r_pI hB cf2 3 (by decide) (own := "PulseRemote$Decoder") rfl (Or.inl k_301) (Or.inl rfl) rfl (by decide +kernel : decode cX2_take 6 = .ok (.putfield 64, 3)) hf (fun m6 hf => ?_)
  refine r_aload_n hB 0 rfl (by decide +kernel : decode cX2_take 9 = .ok (.aload_n 0, 1)) rfl ?_
  refine r_gI hB cf2 3 (by decide) (own := "PulseRemote$Decoder") rfl (Or.inl k_301) (by decide +kernel) (by decide +kernel : decode cX2_take 10 = .ok (.getfield 64, 3)) hf (fun x10 hf => ?_)
  refine r_bipush hB (v := 35) (by decide +kernel : decode cX2_take 13 = .ok (.bipush 35, 2)) (by decide +kernel) ?_
  refine r_icmp_le hB (tgt := 20) (by decide +kernel : decode cX2_take 15 = .ok (.if_icmp .le 5, 3)) (by decide) hf (fun _ hf => ?_) (fun _ hf => ?_)
  · refine r_iconst hB (v := 0) (by decide +kernel : decode cX2_take 20 = .ok (.iconst 0, 1)) (by decide +kernel) ?_
    refine r_istore_n hB (by decide +kernel : decode cX2_take 21 = .ok (.istore_n 3, 1)) rfl (by decide) rfl ?_
    refine ww_lv (lv' := [(3, .int 0), (0, .ref (b + l0)), (1, .ref (b + l1)), (2, .int l2)]) rfl ?_
    exact WW.sub [1, 2, 3, 0] rfl (t_X2_take_22 hB hf hk)
  · refine r_iconst hB (v := 0) (by decide +kernel : decode cX2_take 18 = .ok (.iconst 0, 1)) (by decide +kernel) ?_
    obtain rfl := Option.some.inj hf
    obtain ⟨rfl, rfl⟩ := hk
    exact r_zret hB (Or.inl rfl) (by decide +kernel : decode cX2_take 19 = .ok (.ireturn, 1))
theorem m_X2_take (l : Launch) (D : va_G) (cy : Nat → ClassId) (b : Nat) {l0 : Nat} {l1 : Nat} {l2 : Int32} {μ : MS} {z : Int32 × MS} (hf : f_X2_take l0 l1 l2 μ = some z) : Met l yX2_take (.code yX2_take cX2_take 4 (some .boolean) :: GW) rmX2_take (Pw D cy b [.ref (b + l0), .ref (b + l1), .int l2] μ) (Qw D cy b (some (.int z.1)) (z.2)) rmX2_take.cells rmX2_take.slots (fun q => b ≤ q) :=
  met_of (by decide) (Nat.le_of_ble_eq_true rfl) (fun X hB _ => (t_X2_take_0 hB hf ⟨rfl, rfl⟩))
-- PulseRemote.matches(III)Z
set_option maxHeartbeats 4000000 in
set_option maxRecDepth 100000 in
theorem t_X11_matches_14 {X : BX} {D : va_G} {cy : Nat → ClassId} {b : Nat} {r : Option Value} {μ' : MS} (hB : BB X D cy b yX11_matches cX11_matches 4 (some .boolean) rmX11_matches) {l1 : Int32} {l2 : Int32} {s0 : Int32} {μ : MS} {z : (Int32 × MS)} (hf : f_X11_matches_14 l1 l2 s0 μ = some z) (hk : (fun z : Int32 × MS => r = some (.int z.1) ∧ μ' = z.2) z) : WW X D cy b r μ' 4 0 0 14 [(1, .int l1), (2, .int l2)] [.int s0] μ := by
  unfold f_X11_matches_14 at hf
  refine r_istore_n hB (by decide +kernel : decode cX11_matches 14 = .ok (.istore_n 3, 1)) rfl (by decide) rfl ?_
  refine ww_lv (lv' := [(3, .int s0), (1, .int l1), (2, .int l2)]) rfl ?_
  refine r_bipush hB (v := 100) (by decide +kernel : decode cX11_matches 15 = .ok (.bipush 100, 2)) (by decide +kernel) ?_
  refine r_iload_n hB 0 rfl (by decide +kernel : decode cX11_matches 17 = .ok (.iload_n 3, 1)) rfl ?_
  refine r_imul hB (by decide +kernel : decode cX11_matches 18 = .ok (.imul, 1)) ?_
  refine r_iload_n hB 1 rfl (by decide +kernel : decode cX11_matches 19 = .ok (.iload_n 1, 1)) rfl ?_
  refine r_iload_n hB 2 rfl (by decide +kernel : decode cX11_matches 20 = .ok (.iload_n 2, 1)) rfl ?_
  refine r_imul hB (by decide +kernel : decode cX11_matches 21 = .ok (.imul, 1)) ?_
  refine r_icmp_gt hB (tgt := 29) (by decide +kernel : decode cX11_matches 22 = .ok (.if_icmp .gt 7, 3)) (by decide) hf (fun _ hf => ?_) (fun _ hf => ?_)
  · refine r_iconst hB (v := 0) (by decide +kernel : decode cX11_matches 29 = .ok (.iconst 0, 1)) (by decide +kernel) ?_
    obtain rfl := Option.some.inj hf
    obtain ⟨rfl, rfl⟩ := hk
    exact r_zret hB (Or.inl rfl) (by decide +kernel : decode cX11_matches 30 = .ok (.ireturn, 1))
  · refine r_iconst hB (v := 1) (by decide +kernel : decode cX11_matches 25 = .ok (.iconst 1, 1)) (by decide +kernel) ?_
    refine r_goto hB (tgt := 30) (by decide +kernel : decode cX11_matches 26 = .ok (.goto 4, 3)) (by decide) ?_
    obtain rfl := Option.some.inj hf
    obtain ⟨rfl, rfl⟩ := hk
    exact r_zret hB (Or.inr rfl) (by decide +kernel : decode cX11_matches 30 = .ok (.ireturn, 1))
set_option maxHeartbeats 4000000 in
set_option maxRecDepth 100000 in
theorem t_X11_matches_0 {X : BX} {D : va_G} {cy : Nat → ClassId} {b : Nat} {r : Option Value} {μ' : MS} (hB : BB X D cy b yX11_matches cX11_matches 4 (some .boolean) rmX11_matches) {l0 : Int32} {l1 : Int32} {l2 : Int32} {μ : MS} {z : (Int32 × MS)} (hf : f_X11_matches l0 l1 l2 μ = some z) (hk : (fun z : Int32 × MS => r = some (.int z.1) ∧ μ' = z.2) z) : WW X D cy b r μ' 4 0 0 0 [(0, .int l0), (1, .int l1), (2, .int l2)] [] μ := by
  unfold f_X11_matches at hf
  refine r_iload_n hB 0 rfl (by decide +kernel : decode cX11_matches 0 = .ok (.iload_n 0, 1)) rfl ?_
  refine r_iload_n hB 1 rfl (by decide +kernel : decode cX11_matches 1 = .ok (.iload_n 1, 1)) rfl ?_
  refine r_icmp_le hB (tgt := 11) (by decide +kernel : decode cX11_matches 2 = .ok (.if_icmp .le 9, 3)) (by decide) hf (fun _ hf => ?_) (fun _ hf => ?_)
  · refine r_iload_n hB 1 rfl (by decide +kernel : decode cX11_matches 11 = .ok (.iload_n 1, 1)) rfl ?_
    refine r_iload_n hB 0 rfl (by decide +kernel : decode cX11_matches 12 = .ok (.iload_n 0, 1)) rfl ?_
    refine r_isub hB (by decide +kernel : decode cX11_matches 13 = .ok (.isub, 1)) ?_
    exact WW.sub [1, 2] rfl (t_X11_matches_14 hB hf hk)
  · refine r_iload_n hB 0 rfl (by decide +kernel : decode cX11_matches 5 = .ok (.iload_n 0, 1)) rfl ?_
    refine r_iload_n hB 1 rfl (by decide +kernel : decode cX11_matches 6 = .ok (.iload_n 1, 1)) rfl ?_
    refine r_isub hB (by decide +kernel : decode cX11_matches 7 = .ok (.isub, 1)) ?_
    refine r_goto hB (tgt := 14) (by decide +kernel : decode cX11_matches 8 = .ok (.goto 6, 3)) (by decide) ?_
    exact WW.sub [1, 2] rfl (t_X11_matches_14 hB hf hk)
theorem m_X11_matches (l : Launch) (D : va_G) (cy : Nat → ClassId) (b : Nat) {l0 : Int32} {l1 : Int32} {l2 : Int32} {μ : MS} {z : Int32 × MS} (hf : f_X11_matches l0 l1 l2 μ = some z) : Met l yX11_matches (.code yX11_matches cX11_matches 4 (some .boolean) :: GW) rmX11_matches (Pw D cy b [.int l0, .int l1, .int l2] μ) (Qw D cy b (some (.int z.1)) (z.2)) rmX11_matches.cells rmX11_matches.slots (fun q => b ≤ q) :=
  met_of (by decide) (Nat.le_of_ble_eq_true rfl) (fun X hB _ => (t_X11_matches_0 hB hf ⟨rfl, rfl⟩))
-- PulseRemote$Decoder.fits(II)Z
set_option maxHeartbeats 4000000 in
set_option maxRecDepth 100000 in
theorem t_X2_fits_0 {X : BX} {D : va_G} {cy : Nat → ClassId} {b : Nat} {r : Option Value} {μ' : MS} (hB : BB X D cy b yX2_fits cX2_fits 3 (some .boolean) rmX2_fits) {l0 : Nat} {l1 : Int32} {l2 : Int32} {μ : MS} {z : (Int32 × MS)} (hf : f_X2_fits l0 l1 l2 μ = some z) (hk : (fun z : Int32 × MS => r = some (.int z.1) ∧ μ' = z.2) z) : WW X D cy b r μ' 3 0 0 0 [(0, .ref (b + l0)), (1, .int l1), (2, .int l2)] [] μ := by
  unfold f_X2_fits at hf
  refine r_iload_n hB 1 rfl (by decide +kernel : decode cX2_fits 0 = .ok (.iload_n 1, 1)) rfl ?_
  refine r_if_lt hB (tgt := 39) (by decide +kernel : decode cX2_fits 1 = .ok (.ifCond .lt 38, 3)) (by decide) hf (fun _ hf => ?_) (fun _ hf => ?_)
  · refine r_iconst hB (v := 0) (by decide +kernel : decode cX2_fits 39 = .ok (.iconst 0, 1)) (by decide +kernel) ?_
    obtain rfl := Option.some.inj hf
    obtain ⟨rfl, rfl⟩ := hk
    exact r_zret hB (Or.inl rfl) (by decide +kernel : decode cX2_fits 40 = .ok (.ireturn, 1))
  · refine r_iload_n hB 1 rfl (by decide +kernel : decode cX2_fits 4 = .ok (.iload_n 1, 1)) rfl ?_
    refine r_aload_n hB 0 rfl (by decide +kernel : decode cX2_fits 5 = .ok (.aload_n 0, 1)) rfl ?_
    refine r_gI hB cf2 3 (by decide) (own := "PulseRemote$Decoder") rfl (Or.inl k_301) (by decide +kernel) (by decide +kernel : decode cX2_fits 6 = .ok (.getfield 64, 3)) hf (fun x6 hf => ?_)
    refine r_icmp_ge hB (tgt := 39) (by decide +kernel : decode cX2_fits 9 = .ok (.if_icmp .ge 30, 3)) (by decide) hf (fun _ hf => ?_) (fun _ hf => ?_)
    · refine r_iconst hB (v := 0) (by decide +kernel : decode cX2_fits 39 = .ok (.iconst 0, 1)) (by decide +kernel) ?_
      obtain rfl := Option.some.inj hf
      obtain ⟨rfl, rfl⟩ := hk
      exact r_zret hB (Or.inl rfl) (by decide +kernel : decode cX2_fits 40 = .ok (.ireturn, 1))
    · refine r_iload_n hB 1 rfl (by decide +kernel : decode cX2_fits 12 = .ok (.iload_n 1, 1)) rfl ?_
      refine r_bipush hB (v := 35) (by decide +kernel : decode cX2_fits 13 = .ok (.bipush 35, 2)) (by decide +kernel) ?_
      refine r_icmp_ge hB (tgt := 39) (by decide +kernel : decode cX2_fits 15 = .ok (.if_icmp .ge 24, 3)) (by decide) hf (fun _ hf => ?_) (fun _ hf => ?_)
      · refine r_iconst hB (v := 0) (by decide +kernel : decode cX2_fits 39 = .ok (.iconst 0, 1)) (by decide +kernel) ?_
        obtain rfl := Option.some.inj hf
        obtain ⟨rfl, rfl⟩ := hk
        exact r_zret hB (Or.inl rfl) (by decide +kernel : decode cX2_fits 40 = .ok (.ireturn, 1))
      · refine r_aload_n hB 0 rfl (by decide +kernel : decode cX2_fits 18 = .ok (.aload_n 0, 1)) rfl ?_
        refine r_gR hB cf2 2 (by decide) (own := "PulseRemote$Decoder") rfl (Or.inl k_300) (by decide +kernel) (by decide +kernel : decode cX2_fits 19 = .ok (.getfield 18, 3)) hf (fun x19 hf => ?_)
        refine r_iload_n hB 1 rfl (by decide +kernel : decode cX2_fits 22 = .ok (.iload_n 1, 1)) rfl ?_
        refine r_iald hB (by decide +kernel : decode cX2_fits 23 = .ok (.iaload, 1)) hf (fun x23 hf => ?_)
        refine r_iload_n hB 2 rfl (by decide +kernel : decode cX2_fits 24 = .ok (.iload_n 2, 1)) rfl ?_
        refine r_aload_n hB 0 rfl (by decide +kernel : decode cX2_fits 25 = .ok (.aload_n 0, 1)) rfl ?_
        refine r_gI hB cf2 4 (by decide) (own := "PulseRemote$Decoder") rfl (Or.inl k_302) (by decide +kernel) (by decide +kernel : decode cX2_fits 26 = .ok (.getfield 26, 3)) hf (fun x26 hf => ?_)
        refine r_cSi hB [.int x23, .int l2, .int x26] [] (own := "PulseRemote$Decoder") rfl cmX11_matches smX11_matches (Or.inr ⟨_, k_977⟩) (by decide) rfl rfl rfl (Nat.le_of_ble_eq_true rfl) (by decide +kernel : decode cX2_fits 29 = .ok (.invokestatic 87, 3)) (fun z hz => m_X11_matches _ _ _ _ hz) rfl hf (fun z29 hf => ?_)
        refine r_if_eq hB (tgt := 39) (by decide +kernel : decode cX2_fits 32 = .ok (.ifCond .eq 7, 3)) (by decide) hf (fun _ hf => ?_) (fun _ hf => ?_)
        · refine r_iconst hB (v := 0) (by decide +kernel : decode cX2_fits 39 = .ok (.iconst 0, 1)) (by decide +kernel) ?_
          obtain rfl := Option.some.inj hf
          obtain ⟨rfl, rfl⟩ := hk
          exact r_zret hB (Or.inl rfl) (by decide +kernel : decode cX2_fits 40 = .ok (.ireturn, 1))
        · refine r_iconst hB (v := 1) (by decide +kernel : decode cX2_fits 35 = .ok (.iconst 1, 1)) (by decide +kernel) ?_
          refine r_goto hB (tgt := 40) (by decide +kernel : decode cX2_fits 36 = .ok (.goto 4, 3)) (by decide) ?_
          obtain rfl := Option.some.inj hf
          obtain ⟨rfl, rfl⟩ := hk
          exact r_zret hB (Or.inr rfl) (by decide +kernel : decode cX2_fits 40 = .ok (.ireturn, 1))
theorem m_X2_fits (l : Launch) (D : va_G) (cy : Nat → ClassId) (b : Nat) {l0 : Nat} {l1 : Int32} {l2 : Int32} {μ : MS} {z : Int32 × MS} (hf : f_X2_fits l0 l1 l2 μ = some z) : Met l yX2_fits (.code yX2_fits cX2_fits 3 (some .boolean) :: GW) rmX2_fits (Pw D cy b [.ref (b + l0), .int l1, .int l2] μ) (Qw D cy b (some (.int z.1)) (z.2)) rmX2_fits.cells rmX2_fits.slots (fun q => b ≤ q) :=
  met_of (by decide) (Nat.le_of_ble_eq_true rfl) (fun X hB _ => (t_X2_fits_0 hB hf ⟨rfl, rfl⟩))
-- PulseRemote$Decoder.placesOf(I)J
set_option maxHeartbeats 4000000 in
set_option maxRecDepth 100000 in
theorem t_X2_placesOf_37 {X : BX} {D : va_G} {cy : Nat → ClassId} {b : Nat} {r : Option Value} {μ' : MS} (hB : BB X D cy b yX2_placesOf cX2_placesOf 5 (some .long) rmX2_placesOf) {l2 : Int64} {μ : MS} {z : (Int64 × MS)} (hf : f_X2_placesOf_37 l2 μ = some z) (hk : (fun z : Int64 × MS => r = some (.long z.1) ∧ μ' = z.2) z) : WW X D cy b r μ' 5 0 0 37 [(2, .long l2)] [] μ := by
  unfold f_X2_placesOf_37 at hf
  refine r_lload_n hB 0 rfl (by decide +kernel : decode cX2_placesOf 37 = .ok (.lload_n 2, 1)) rfl ?_
  obtain rfl := Option.some.inj hf
  obtain ⟨rfl, rfl⟩ := hk
  exact r_lret hB (by decide +kernel : decode cX2_placesOf 38 = .ok (.lreturn, 1))
set_option maxHeartbeats 4000000 in
set_option maxRecDepth 100000 in
theorem t_X2_placesOf_31 {X : BX} {D : va_G} {cy : Nat → ClassId} {b : Nat} {r : Option Value} {μ' : MS} (hB : BB X D cy b yX2_placesOf cX2_placesOf 5 (some .long) rmX2_placesOf) {l0 : Nat} {l1 : Int32} {l2 : Int64} {l4 : Int32} {μ : MS} {z : ((Nat × Int32 × Int64 × Int32 × MS) ⊕ (Int64 × MS))} (hf : f_X2_placesOf_31 l0 l1 l2 l4 μ = some z) (hk : (Sum.elim (fun s : Nat × Int32 × Int64 × Int32 × MS => WW X D cy b r μ' 5 0 0 5 [(0, .ref (b + s.1)), (1, .int s.2.1), (2, .long s.2.2.1), (4, .int s.2.2.2.1)] [] s.2.2.2.2) (fun z : Int64 × MS => r = some (.long z.1) ∧ μ' = z.2)) z) : WW X D cy b r μ' 5 0 0 31 [(0, .ref (b + l0)), (1, .int l1), (2, .long l2), (4, .int l4)] [] μ := by
  unfold f_X2_placesOf_31 at hf
  refine r_iincB hB 3 rfl (by decide +kernel : decode cX2_placesOf 31 = .ok (.iinc 4 1, 3)) (w := 1) (by decide +kernel) (by decide) hf (fun v31 hf => ?_)
  refine ww_lv (lv' := [(4, .int v31), (0, .ref (b + l0)), (1, .int l1), (2, .long l2)]) rfl ?_
  refine r_goto hB (tgt := 5) (by decide +kernel : decode cX2_placesOf 34 = .ok (.goto (-29), 3)) (by decide) ?_
  obtain rfl := Option.some.inj hf
  exact WW.sub [1, 2, 3, 0] rfl hk
set_option maxHeartbeats 4000000 in
set_option maxRecDepth 100000 in
theorem t_X2_placesOf_5_b {X : BX} {D : va_G} {cy : Nat → ClassId} {b : Nat} {r : Option Value} {μ' : MS} (hB : BB X D cy b yX2_placesOf cX2_placesOf 5 (some .long) rmX2_placesOf) {l0 : Nat} {l1 : Int32} {l2 : Int64} {l4 : Int32} {μ : MS} {z : ((Nat × Int32 × Int64 × Int32 × MS) ⊕ (Int64 × MS))} (hf : f_X2_placesOf_5_b l0 l1 l2 l4 μ = some z) (hk : (Sum.elim (fun s : Nat × Int32 × Int64 × Int32 × MS => WW X D cy b r μ' 5 0 0 5 [(0, .ref (b + s.1)), (1, .int s.2.1), (2, .long s.2.2.1), (4, .int s.2.2.2.1)] [] s.2.2.2.2) (fun z : Int64 × MS => r = some (.long z.1) ∧ μ' = z.2)) z) : WW X D cy b r μ' 5 0 0 5 [(0, .ref (b + l0)), (1, .int l1), (2, .long l2), (4, .int l4)] [] μ := by
  unfold f_X2_placesOf_5_b at hf
  refine r_iload hB 3 rfl (by decide +kernel : decode cX2_placesOf 5 = .ok (.iload 4, 2)) ?_
  refine r_aload_n hB 0 rfl (by decide +kernel : decode cX2_placesOf 7 = .ok (.aload_n 0, 1)) rfl ?_
  refine r_gI hB cf2 3 (by decide) (own := "PulseRemote$Decoder") rfl (Or.inl k_301) (by decide +kernel) (by decide +kernel : decode cX2_placesOf 8 = .ok (.getfield 64, 3)) hf (fun x8 hf => ?_)
  refine r_icmp_ge hB (tgt := 37) (by decide +kernel : decode cX2_placesOf 11 = .ok (.if_icmp .ge 26, 3)) (by decide) hf (fun _ hf => ?_) (fun _ hf => ?_)
  · obtain ⟨_, hx0, rfl⟩ := xr_inv hf
    exact WW.sub [2] rfl (t_X2_placesOf_37 hB hx0 hk)
  · refine r_aload_n hB 0 rfl (by decide +kernel : decode cX2_placesOf 14 = .ok (.aload_n 0, 1)) rfl ?_
    refine r_iload hB 3 rfl (by decide +kernel : decode cX2_placesOf 15 = .ok (.iload 4, 2)) ?_
    refine r_iload_n hB 1 rfl (by decide +kernel : decode cX2_placesOf 17 = .ok (.iload_n 1, 1)) rfl ?_
    refine r_cVi hB [.int l4, .int l1] [] cf2 (own := "PulseRemote$Decoder") rfl cmX2_fits imX2_fits (Or.inl k_973) (by decide) rfl rfl rfl (Nat.le_of_ble_eq_true rfl) (by decide +kernel : decode cX2_placesOf 18 = .ok (.invokevirtual 77, 3)) (fun z hz => m_X2_fits _ _ _ _ hz) rfl hf (fun z18 hf => ?_)
    refine r_if_eq hB (tgt := 31) (by decide +kernel : decode cX2_placesOf 21 = .ok (.ifCond .eq 10, 3)) (by decide) hf (fun _ hf => ?_) (fun _ hf => ?_)
    · exact WW.sub [0, 1, 2, 3] rfl (t_X2_placesOf_31 hB hf hk)
    · refine r_lload_n hB 2 rfl (by decide +kernel : decode cX2_placesOf 24 = .ok (.lload_n 2, 1)) rfl ?_
      refine r_lconst hB (v := 1) (by decide +kernel : decode cX2_placesOf 25 = .ok (.lconst 1, 1)) (by decide +kernel) ?_
      refine r_iload hB 3 rfl (by decide +kernel : decode cX2_placesOf 26 = .ok (.iload 4, 2)) ?_
      refine r_lshl hB (by decide +kernel : decode cX2_placesOf 28 = .ok (.lshl, 1)) ?_
      refine r_lor hB (by decide +kernel : decode cX2_placesOf 29 = .ok (.lor, 1)) ?_
      refine r_nameL hf (fun v30 hf => ?_)
      refine r_lstore_n hB (by decide +kernel : decode cX2_placesOf 30 = .ok (.lstore_n 2, 1)) rfl (by decide) rfl ?_
      refine ww_lv (lv' := [(2, .long v30), (0, .ref (b + l0)), (1, .int l1), (4, .int l4)]) rfl ?_
      exact WW.sub [1, 2, 0, 3] rfl (t_X2_placesOf_31 hB hf hk)
set_option maxHeartbeats 4000000 in
set_option maxRecDepth 100000 in
theorem t_X2_placesOf_5 {X : BX} {D : va_G} {cy : Nat → ClassId} {b : Nat} {r : Option Value} {μ' : MS} (hB : BB X D cy b yX2_placesOf cX2_placesOf 5 (some .long) rmX2_placesOf) {l0 : Nat} {l1 : Int32} {l2 : Int64} {l4 : Int32} {μ : MS} {z : (Int64 × MS)} (hf : f_X2_placesOf_5 l0 l1 l2 l4 μ = some z) (hk : (fun z : Int64 × MS => r = some (.long z.1) ∧ μ' = z.2) z) : WW X D cy b r μ' 5 0 0 5 [(0, .ref (b + l0)), (1, .int l1), (2, .long l2), (4, .int l4)] [] μ :=
  lp_ind (P := fun s : Nat × Int32 × Int64 × Int32 × MS => WW X D cy b r μ' 5 0 0 5 [(0, .ref (b + s.1)), (1, .int s.2.1), (2, .long s.2.2.1), (4, .int s.2.2.2.1)] [] s.2.2.2.2) (Q := (fun z : Int64 × MS => r = some (.long z.1) ∧ μ' = z.2)) (fun s z hz hk => t_X2_placesOf_5_b hB hz hk) (l0, l1, l2, l4, μ) z hf hk
set_option maxHeartbeats 4000000 in
set_option maxRecDepth 100000 in
theorem t_X2_placesOf_0 {X : BX} {D : va_G} {cy : Nat → ClassId} {b : Nat} {r : Option Value} {μ' : MS} (hB : BB X D cy b yX2_placesOf cX2_placesOf 5 (some .long) rmX2_placesOf) {l0 : Nat} {l1 : Int32} {μ : MS} {z : (Int64 × MS)} (hf : f_X2_placesOf l0 l1 μ = some z) (hk : (fun z : Int64 × MS => r = some (.long z.1) ∧ μ' = z.2) z) : WW X D cy b r μ' 5 0 0 0 [(0, .ref (b + l0)), (1, .int l1)] [] μ := by
  unfold f_X2_placesOf at hf
  refine r_lconst hB (v := 0) (by decide +kernel : decode cX2_placesOf 0 = .ok (.lconst 0, 1)) (by decide +kernel) ?_
  refine r_lstore_n hB (by decide +kernel : decode cX2_placesOf 1 = .ok (.lstore_n 2, 1)) rfl (by decide) rfl ?_
  refine ww_lv (lv' := [(2, .long 0), (0, .ref (b + l0)), (1, .int l1)]) rfl ?_
  refine r_iconst hB (v := 2) (by decide +kernel : decode cX2_placesOf 2 = .ok (.iconst 2, 1)) (by decide +kernel) ?_
  refine r_istore hB (by decide +kernel : decode cX2_placesOf 3 = .ok (.istore 4, 2)) (by decide) rfl ?_
  refine ww_lv (lv' := [(4, .int 2), (2, .long 0), (0, .ref (b + l0)), (1, .int l1)]) rfl ?_
  exact WW.sub [2, 3, 1, 0] rfl (t_X2_placesOf_5 hB hf hk)
theorem m_X2_placesOf (l : Launch) (D : va_G) (cy : Nat → ClassId) (b : Nat) {l0 : Nat} {l1 : Int32} {μ : MS} {z : Int64 × MS} (hf : f_X2_placesOf l0 l1 μ = some z) : Met l yX2_placesOf (.code yX2_placesOf cX2_placesOf 5 (some .long) :: GW) rmX2_placesOf (Pw D cy b [.ref (b + l0), .int l1] μ) (Qw D cy b (some (.long z.1)) (z.2)) rmX2_placesOf.cells rmX2_placesOf.slots (fun q => b ≤ q) :=
  met_of (by decide) (Nat.le_of_ble_eq_true rfl) (fun X hB _ => (t_X2_placesOf_0 hB hf ⟨rfl, rfl⟩))
-- PulseRemote$Decoder.isIn(JI)Z
set_option maxHeartbeats 4000000 in
set_option maxRecDepth 100000 in
theorem t_X2_isIn_0 {X : BX} {D : va_G} {cy : Nat → ClassId} {b : Nat} {r : Option Value} {μ' : MS} (hB : BB X D cy b yX2_isIn cX2_isIn 3 (some .boolean) rmX2_isIn) {l0 : Int64} {l2 : Int32} {μ : MS} {z : (Int32 × MS)} (hf : f_X2_isIn l0 l2 μ = some z) (hk : (fun z : Int32 × MS => r = some (.int z.1) ∧ μ' = z.2) z) : WW X D cy b r μ' 3 0 0 0 [(0, .long l0), (2, .int l2)] [] μ := by
  unfold f_X2_isIn at hf
  refine r_lload_n hB 0 rfl (by decide +kernel : decode cX2_isIn 0 = .ok (.lload_n 0, 1)) rfl ?_
  refine r_iload_n hB 1 rfl (by decide +kernel : decode cX2_isIn 1 = .ok (.iload_n 2, 1)) rfl ?_
  refine r_lushr hB (by decide +kernel : decode cX2_isIn 2 = .ok (.lushr, 1)) ?_
  refine r_lconst hB (v := 1) (by decide +kernel : decode cX2_isIn 3 = .ok (.lconst 1, 1)) (by decide +kernel) ?_
  refine r_land hB (by decide +kernel : decode cX2_isIn 4 = .ok (.land, 1)) ?_
  refine r_lconst hB (v := 0) (by decide +kernel : decode cX2_isIn 5 = .ok (.lconst 0, 1)) (by decide +kernel) ?_
  refine r_lcmp hB (by decide +kernel : decode cX2_isIn 6 = .ok (.lcmp, 1)) ?_
  refine r_if_eq hB (tgt := 14) (by decide +kernel : decode cX2_isIn 7 = .ok (.ifCond .eq 7, 3)) (by decide) hf (fun _ hf => ?_) (fun _ hf => ?_)
  · refine r_iconst hB (v := 0) (by decide +kernel : decode cX2_isIn 14 = .ok (.iconst 0, 1)) (by decide +kernel) ?_
    obtain rfl := Option.some.inj hf
    obtain ⟨rfl, rfl⟩ := hk
    exact r_zret hB (Or.inl rfl) (by decide +kernel : decode cX2_isIn 15 = .ok (.ireturn, 1))
  · refine r_iconst hB (v := 1) (by decide +kernel : decode cX2_isIn 10 = .ok (.iconst 1, 1)) (by decide +kernel) ?_
    refine r_goto hB (tgt := 15) (by decide +kernel : decode cX2_isIn 11 = .ok (.goto 4, 3)) (by decide) ?_
    obtain rfl := Option.some.inj hf
    obtain ⟨rfl, rfl⟩ := hk
    exact r_zret hB (Or.inr rfl) (by decide +kernel : decode cX2_isIn 15 = .ok (.ireturn, 1))
theorem m_X2_isIn (l : Launch) (D : va_G) (cy : Nat → ClassId) (b : Nat) {l0 : Int64} {l2 : Int32} {μ : MS} {z : Int32 × MS} (hf : f_X2_isIn l0 l2 μ = some z) : Met l yX2_isIn (.code yX2_isIn cX2_isIn 3 (some .boolean) :: GW) rmX2_isIn (Pw D cy b [.long l0, .int l2] μ) (Qw D cy b (some (.int z.1)) (z.2)) rmX2_isIn.cells rmX2_isIn.slots (fun q => b ≤ q) :=
  met_of (by decide) (Nat.le_of_ble_eq_true rfl) (fun X hB _ => (t_X2_isIn_0 hB hf ⟨rfl, rfl⟩))
-- PulseRemote$Decoder.restOfPhaseCode(LPulseRemote$Protocol;IJJ)I
set_option maxHeartbeats 4000000 in
set_option maxRecDepth 100000 in
theorem t_X2_restOfPhaseCode_120 {X : BX} {D : va_G} {cy : Nat → ClassId} {b : Nat} {r : Option Value} {μ' : MS} (hB : BB X D cy b yX2_restOfPhaseCode cX2_restOfPhaseCode 12 (some .int) rmX2_restOfPhaseCode) {l8 : Int32} {μ : MS} {z : (Int32 × MS)} (hf : f_X2_restOfPhaseCode_120 l8 μ = some z) (hk : (fun z : Int32 × MS => r = some (.int z.1) ∧ μ' = z.2) z) : WW X D cy b r μ' 12 0 0 120 [(8, .int l8)] [] μ := by
  unfold f_X2_restOfPhaseCode_120 at hf
  refine r_iload hB 0 rfl (by decide +kernel : decode cX2_restOfPhaseCode 120 = .ok (.iload 8, 2)) ?_
  obtain rfl := Option.some.inj hf
  obtain ⟨rfl, rfl⟩ := hk
  exact r_iret hB (by decide +kernel : decode cX2_restOfPhaseCode 122 = .ok (.ireturn, 1))
set_option maxHeartbeats 4000000 in
set_option maxRecDepth 100000 in
theorem t_X2_restOfPhaseCode_107 {X : BX} {D : va_G} {cy : Nat → ClassId} {b : Nat} {r : Option Value} {μ' : MS} (hB : BB X D cy b yX2_restOfPhaseCode cX2_restOfPhaseCode 12 (some .int) rmX2_restOfPhaseCode) {l0 : Nat} {l1 : Nat} {l3 : Int64} {l5 : Int64} {l7 : Int32} {l8 : Int32} {l9 : Int32} {l11 : Int32} {μ : MS} {z : ((Nat × Nat × Int64 × Int64 × Int32 × Int32 × Int32 × MS) ⊕ (Int32 × MS))} (hf : f_X2_restOfPhaseCode_107 l0 l1 l3 l5 l7 l8 l9 l11 μ = some z) (hk : (Sum.elim (fun s : Nat × Nat × Int64 × Int64 × Int32 × Int32 × Int32 × MS => WW X D cy b r μ' 12 0 0 9 [(0, .ref (b + s.1)), (1, .ref (b + s.2.1)), (3, .long s.2.2.1), (5, .long s.2.2.2.1), (7, .int s.2.2.2.2.1), (8, .int s.2.2.2.2.2.1), (9, .int s.2.2.2.2.2.2.1)] [] s.2.2.2.2.2.2.2) (fun z : Int32 × MS => r = some (.int z.1) ∧ μ' = z.2)) z) : WW X D cy b r μ' 12 0 0 107 [(0, .ref (b + l0)), (1, .ref (b + l1)), (3, .long l3), (5, .long l5), (7, .int l7), (8, .int l8), (9, .int l9), (11, .int l11)] [] μ := by
  unfold f_X2_restOfPhaseCode_107 at hf
  refine r_iload hB 4 rfl (by decide +kernel : decode cX2_restOfPhaseCode 107 = .ok (.iload 7, 2)) ?_
  refine r_iload hB 7 rfl (by decide +kernel : decode cX2_restOfPhaseCode 109 = .ok (.iload 11, 2)) ?_
  refine r_iadd hB (by decide +kernel : decode cX2_restOfPhaseCode 111 = .ok (.iadd, 1)) ?_
  refine r_name hf (fun v112 hf => ?_)
  refine r_istore hB (by decide +kernel : decode cX2_restOfPhaseCode 112 = .ok (.istore 7, 2)) (by decide) rfl ?_
  refine ww_lv (lv' := [(7, .int v112), (0, .ref (b + l0)), (1, .ref (b + l1)), (3, .long l3), (5, .long l5), (8, .int l8), (9, .int l9), (11, .int l11)]) rfl ?_
  refine r_iincB hB 6 rfl (by decide +kernel : decode cX2_restOfPhaseCode 114 = .ok (.iinc 9 1, 3)) (w := 1) (by decide +kernel) (by decide) hf (fun v114 hf => ?_)
  refine ww_lv (lv' := [(9, .int v114), (7, .int v112), (0, .ref (b + l0)), (1, .ref (b + l1)), (3, .long l3), (5, .long l5), (8, .int l8), (11, .int l11)]) rfl ?_
  refine r_goto hB (tgt := 9) (by decide +kernel : decode cX2_restOfPhaseCode 117 = .ok (.goto (-108), 3)) (by decide) ?_
  obtain rfl := Option.some.inj hf
  exact WW.sub [2, 3, 4, 5, 1, 6, 0] rfl hk
set_option maxHeartbeats 4000000 in
set_option maxRecDepth 100000 in
theorem t_X2_restOfPhaseCode_90 {X : BX} {D : va_G} {cy : Nat → ClassId} {b : Nat} {r : Option Value} {μ' : MS} (hB : BB X D cy b yX2_restOfPhaseCode cX2_restOfPhaseCode 12 (some .int) rmX2_restOfPhaseCode) {l0 : Nat} {l1 : Nat} {l3 : Int64} {l5 : Int64} {l7 : Int32} {l8 : Int32} {l9 : Int32} {l11 : Int32} {μ : MS} {z : ((Nat × Nat × Int64 × Int64 × Int32 × Int32 × Int32 × MS) ⊕ (Int32 × MS))} (hf : f_X2_restOfPhaseCode_90 l0 l1 l3 l5 l7 l8 l9 l11 μ = some z) (hk : (Sum.elim (fun s : Nat × Nat × Int64 × Int64 × Int32 × Int32 × Int32 × MS => WW X D cy b r μ' 12 0 0 9 [(0, .ref (b + s.1)), (1, .ref (b + s.2.1)), (3, .long s.2.2.1), (5, .long s.2.2.2.1), (7, .int s.2.2.2.2.1), (8, .int s.2.2.2.2.2.1), (9, .int s.2.2.2.2.2.2.1)] [] s.2.2.2.2.2.2.2) (fun z : Int32 × MS => r = some (.int z.1) ∧ μ' = z.2)) z) : WW X D cy b r μ' 12 0 0 90 [(0, .ref (b + l0)), (1, .ref (b + l1)), (3, .long l3), (5, .long l5), (7, .int l7), (8, .int l8), (9, .int l9), (11, .int l11)] [] μ := by
  unfold f_X2_restOfPhaseCode_90 at hf
  refine r_iload hB 5 rfl (by decide +kernel : decode cX2_restOfPhaseCode 90 = .ok (.iload 8, 2)) ?_
  refine r_aload_n hB 1 rfl (by decide +kernel : decode cX2_restOfPhaseCode 92 = .ok (.aload_n 1, 1)) rfl ?_
  refine r_iload hB 6 rfl (by decide +kernel : decode cX2_restOfPhaseCode 93 = .ok (.iload 9, 2)) ?_
  refine r_cVi hB [.int l9] [.int l8] cf6 (own := "PulseRemote$Decoder") rfl cmX6_maskAt imX6_maskAt (Or.inl k_992) (by decide) rfl rfl rfl (Nat.le_of_ble_eq_true rfl) (by decide +kernel : decode cX2_restOfPhaseCode 95 = .ok (.invokevirtual 100, 3)) (fun z hz => m_X6_maskAt _ _ _ _ hz) rfl hf (fun z95 hf => ?_)
  refine r_ior hB (by decide +kernel : decode cX2_restOfPhaseCode 98 = .ok (.ior, 1)) ?_
  refine r_name hf (fun v99 hf => ?_)
  refine r_istore hB (by decide +kernel : decode cX2_restOfPhaseCode 99 = .ok (.istore 8, 2)) (by decide) rfl ?_
  refine ww_lv (lv' := [(8, .int v99), (0, .ref (b + l0)), (1, .ref (b + l1)), (3, .long l3), (5, .long l5), (7, .int l7), (9, .int l9), (11, .int l11)]) rfl ?_
  refine r_iconst hB (v := 3) (by decide +kernel : decode cX2_restOfPhaseCode 101 = .ok (.iconst 3, 1)) (by decide +kernel) ?_
  refine r_iload hB 7 rfl (by decide +kernel : decode cX2_restOfPhaseCode 102 = .ok (.iload 11, 2)) ?_
  refine r_isub hB (by decide +kernel : decode cX2_restOfPhaseCode 104 = .ok (.isub, 1)) ?_
  refine r_name hf (fun v105 hf => ?_)
  refine r_istore hB (by decide +kernel : decode cX2_restOfPhaseCode 105 = .ok (.istore 11, 2)) (by decide) rfl ?_
  refine ww_lv (lv' := [(11, .int v105), (8, .int v99), (0, .ref (b + l0)), (1, .ref (b + l1)), (3, .long l3), (5, .long l5), (7, .int l7), (9, .int l9)]) rfl ?_
  exact WW.sub [2, 3, 4, 5, 6, 1, 7, 0] rfl (t_X2_restOfPhaseCode_107 hB hf hk)
set_option maxHeartbeats 4000000 in
set_option maxRecDepth 100000 in
theorem t_X2_restOfPhaseCode_62 {X : BX} {D : va_G} {cy : Nat → ClassId} {b : Nat} {r : Option Value} {μ' : MS} (hB : BB X D cy b yX2_restOfPhaseCode cX2_restOfPhaseCode 12 (some .int) rmX2_restOfPhaseCode) {l0 : Nat} {l1 : Nat} {l3 : Int64} {l5 : Int64} {l7 : Int32} {l8 : Int32} {l9 : Int32} {l11 : Int32} {s0 : Int64} {μ : MS} {z : ((Nat × Nat × Int64 × Int64 × Int32 × Int32 × Int32 × MS) ⊕ (Int32 × MS))} (hf : f_X2_restOfPhaseCode_62 l0 l1 l3 l5 l7 l8 l9 l11 s0 μ = some z) (hk : (Sum.elim (fun s : Nat × Nat × Int64 × Int64 × Int32 × Int32 × Int32 × MS => WW X D cy b r μ' 12 0 0 9 [(0, .ref (b + s.1)), (1, .ref (b + s.2.1)), (3, .long s.2.2.1), (5, .long s.2.2.2.1), (7, .int s.2.2.2.2.1), (8, .int s.2.2.2.2.2.1), (9, .int s.2.2.2.2.2.2.1)] [] s.2.2.2.2.2.2.2) (fun z : Int32 × MS => r = some (.int z.1) ∧ μ' = z.2)) z) : WW X D cy b r μ' 12 0 0 62 [(0, .ref (b + l0)), (1, .ref (b + l1)), (3, .long l3), (5, .long l5), (7, .int l7), (8, .int l8), (9, .int l9), (11, .int l11)] [.long s0] μ := by
  unfold f_X2_restOfPhaseCode_62 at hf
  refine r_iload hB 4 rfl (by decide +kernel : decode cX2_restOfPhaseCode 62 = .ok (.iload 7, 2)) ?_
  refine r_cSi hB [.long s0, .int l7] [] (own := "PulseRemote$Decoder") rfl cmX2_isIn smX2_isIn (Or.inl ⟨rfl, k_985⟩) (by decide) rfl rfl rfl (Nat.le_of_ble_eq_true rfl) (by decide +kernel : decode cX2_restOfPhaseCode 64 = .ok (.invokestatic 112, 3)) (fun z hz => m_X2_isIn _ _ _ _ hz) rfl hf (fun z64 hf => ?_)
  refine r_if_eq hB (tgt := 90) (by decide +kernel : decode cX2_restOfPhaseCode 67 = .ok (.ifCond .eq 23, 3)) (by decide) hf (fun _ hf => ?_) (fun _ hf => ?_)
  · exact WW.sub [0, 1, 2, 3, 4, 5, 6, 7] rfl (t_X2_restOfPhaseCode_90 hB hf hk)
  · refine r_aload_n hB 0 rfl (by decide +kernel : decode cX2_restOfPhaseCode 70 = .ok (.aload_n 0, 1)) rfl ?_
    refine r_gR hB cf2 5 (by decide) (own := "PulseRemote$Decoder") rfl (Or.inl k_303) (by decide +kernel) (by decide +kernel : decode cX2_restOfPhaseCode 71 = .ok (.getfield 22, 3)) hf (fun x71 hf => ?_)
    refine r_iload hB 6 rfl (by decide +kernel : decode cX2_restOfPhaseCode 74 = .ok (.iload 9, 2)) ?_
    refine r_iconst hB (v := 1) (by decide +kernel : decode cX2_restOfPhaseCode 76 = .ok (.iconst 1, 1)) (by decide +kernel) ?_
    refine r_iadd hB (by decide +kernel : decode cX2_restOfPhaseCode 77 = .ok (.iadd, 1)) ?_
    refine r_lald hB (by decide +kernel : decode cX2_restOfPhaseCode 78 = .ok (.laload, 1)) hf (fun x78 hf => ?_)
    refine r_iload hB 4 rfl (by decide +kernel : decode cX2_restOfPhaseCode 79 = .ok (.iload 7, 2)) ?_
    refine r_iload hB 7 rfl (by decide +kernel : decode cX2_restOfPhaseCode 81 = .ok (.iload 11, 2)) ?_
    refine r_iadd hB (by decide +kernel : decode cX2_restOfPhaseCode 83 = .ok (.iadd, 1)) ?_
    refine r_cSi hB [.long x78, .int (l7 + l11)] [] (own := "PulseRemote$Decoder") rfl cmX2_isIn smX2_isIn (Or.inl ⟨rfl, k_985⟩) (by decide) rfl rfl rfl (Nat.le_of_ble_eq_true rfl) (by decide +kernel : decode cX2_restOfPhaseCode 84 = .ok (.invokestatic 112, 3)) (fun z hz => m_X2_isIn _ _ _ _ hz) rfl hf (fun z84 hf => ?_)
    refine r_if_ne hB (tgt := 107) (by decide +kernel : decode cX2_restOfPhaseCode 87 = .ok (.ifCond .ne 20, 3)) (by decide) hf (fun _ hf => ?_) (fun _ hf => ?_)
    · exact WW.sub [0, 1, 2, 3, 4, 5, 6, 7] rfl (t_X2_restOfPhaseCode_90 hB hf hk)
    · exact WW.sub [0, 1, 2, 3, 4, 5, 6, 7] rfl (t_X2_restOfPhaseCode_107 hB hf hk)
set_option maxHeartbeats 4000000 in
set_option maxRecDepth 100000 in
theorem t_X2_restOfPhaseCode_49 {X : BX} {D : va_G} {cy : Nat → ClassId} {b : Nat} {r : Option Value} {μ' : MS} (hB : BB X D cy b yX2_restOfPhaseCode cX2_restOfPhaseCode 12 (some .int) rmX2_restOfPhaseCode) {l0 : Nat} {l1 : Nat} {l3 : Int64} {l5 : Int64} {l7 : Int32} {l8 : Int32} {l9 : Int32} {l10 : Int32} {s0 : Int32} {μ : MS} {z : ((Nat × Nat × Int64 × Int64 × Int32 × Int32 × Int32 × MS) ⊕ (Int32 × MS))} (hf : f_X2_restOfPhaseCode_49 l0 l1 l3 l5 l7 l8 l9 l10 s0 μ = some z) (hk : (Sum.elim (fun s : Nat × Nat × Int64 × Int64 × Int32 × Int32 × Int32 × MS => WW X D cy b r μ' 12 0 0 9 [(0, .ref (b + s.1)), (1, .ref (b + s.2.1)), (3, .long s.2.2.1), (5, .long s.2.2.2.1), (7, .int s.2.2.2.2.1), (8, .int s.2.2.2.2.2.1), (9, .int s.2.2.2.2.2.2.1)] [] s.2.2.2.2.2.2.2) (fun z : Int32 × MS => r = some (.int z.1) ∧ μ' = z.2)) z) : WW X D cy b r μ' 12 0 0 49 [(0, .ref (b + l0)), (1, .ref (b + l1)), (3, .long l3), (5, .long l5), (7, .int l7), (8, .int l8), (9, .int l9), (10, .int l10)] [.int s0] μ := by
  unfold f_X2_restOfPhaseCode_49 at hf
  refine r_istore hB (by decide +kernel : decode cX2_restOfPhaseCode 49 = .ok (.istore 11, 2)) (by decide) rfl ?_
  refine ww_lv (lv' := [(11, .int s0), (0, .ref (b + l0)), (1, .ref (b + l1)), (3, .long l3), (5, .long l5), (7, .int l7), (8, .int l8), (9, .int l9), (10, .int l10)]) rfl ?_
  refine r_iload hB 8 rfl (by decide +kernel : decode cX2_restOfPhaseCode 51 = .ok (.iload 10, 2)) ?_
  refine r_if_eq hB (tgt := 60) (by decide +kernel : decode cX2_restOfPhaseCode 53 = .ok (.ifCond .eq 7, 3)) (by decide) hf (fun _ hf => ?_) (fun _ hf => ?_)
  · refine r_lload hB 4 rfl (by decide +kernel : decode cX2_restOfPhaseCode 60 = .ok (.lload 5, 2)) ?_
    exact WW.sub [1, 2, 3, 4, 5, 6, 7, 0] rfl (t_X2_restOfPhaseCode_62 hB hf hk)
  · refine r_lload_n hB 3 rfl (by decide +kernel : decode cX2_restOfPhaseCode 56 = .ok (.lload_n 3, 1)) rfl ?_
    refine r_goto hB (tgt := 62) (by decide +kernel : decode cX2_restOfPhaseCode 57 = .ok (.goto 5, 3)) (by decide) ?_
    exact WW.sub [1, 2, 3, 4, 5, 6, 7, 0] rfl (t_X2_restOfPhaseCode_62 hB hf hk)
set_option maxHeartbeats 4000000 in
set_option maxRecDepth 100000 in
theorem t_X2_restOfPhaseCode_37 {X : BX} {D : va_G} {cy : Nat → ClassId} {b : Nat} {r : Option Value} {μ' : MS} (hB : BB X D cy b yX2_restOfPhaseCode cX2_restOfPhaseCode 12 (some .int) rmX2_restOfPhaseCode) {l0 : Nat} {l1 : Nat} {l3 : Int64} {l5 : Int64} {l7 : Int32} {l8 : Int32} {l9 : Int32} {s0 : Int32} {μ : MS} {z : ((Nat × Nat × Int64 × Int64 × Int32 × Int32 × Int32 × MS) ⊕ (Int32 × MS))} (hf : f_X2_restOfPhaseCode_37 l0 l1 l3 l5 l7 l8 l9 s0 μ = some z) (hk : (Sum.elim (fun s : Nat × Nat × Int64 × Int64 × Int32 × Int32 × Int32 × MS => WW X D cy b r μ' 12 0 0 9 [(0, .ref (b + s.1)), (1, .ref (b + s.2.1)), (3, .long s.2.2.1), (5, .long s.2.2.2.1), (7, .int s.2.2.2.2.1), (8, .int s.2.2.2.2.2.1), (9, .int s.2.2.2.2.2.2.1)] [] s.2.2.2.2.2.2.2) (fun z : Int32 × MS => r = some (.int z.1) ∧ μ' = z.2)) z) : WW X D cy b r μ' 12 0 0 37 [(0, .ref (b + l0)), (1, .ref (b + l1)), (3, .long l3), (5, .long l5), (7, .int l7), (8, .int l8), (9, .int l9)] [.int s0] μ := by
  unfold f_X2_restOfPhaseCode_37 at hf
  refine r_istore hB (by decide +kernel : decode cX2_restOfPhaseCode 37 = .ok (.istore 10, 2)) (by decide) rfl ?_
  refine ww_lv (lv' := [(10, .int s0), (0, .ref (b + l0)), (1, .ref (b + l1)), (3, .long l3), (5, .long l5), (7, .int l7), (8, .int l8), (9, .int l9)]) rfl ?_
  refine r_iload hB 0 rfl (by decide +kernel : decode cX2_restOfPhaseCode 39 = .ok (.iload 10, 2)) ?_
  refine r_if_eq hB (tgt := 48) (by decide +kernel : decode cX2_restOfPhaseCode 41 = .ok (.ifCond .eq 7, 3)) (by decide) hf (fun _ hf => ?_) (fun _ hf => ?_)
  · refine r_iconst hB (v := 1) (by decide +kernel : decode cX2_restOfPhaseCode 48 = .ok (.iconst 1, 1)) (by decide +kernel) ?_
    exact WW.sub [1, 2, 3, 4, 5, 6, 7, 0] rfl (t_X2_restOfPhaseCode_49 hB hf hk)
  · refine r_iconst hB (v := 2) (by decide +kernel : decode cX2_restOfPhaseCode 44 = .ok (.iconst 2, 1)) (by decide +kernel) ?_
    refine r_goto hB (tgt := 49) (by decide +kernel : decode cX2_restOfPhaseCode 45 = .ok (.goto 4, 3)) (by decide) ?_
    exact WW.sub [1, 2, 3, 4, 5, 6, 7, 0] rfl (t_X2_restOfPhaseCode_49 hB hf hk)
set_option maxHeartbeats 4000000 in
set_option maxRecDepth 100000 in
theorem t_X2_restOfPhaseCode_9_b {X : BX} {D : va_G} {cy : Nat → ClassId} {b : Nat} {r : Option Value} {μ' : MS} (hB : BB X D cy b yX2_restOfPhaseCode cX2_restOfPhaseCode 12 (some .int) rmX2_restOfPhaseCode) {l0 : Nat} {l1 : Nat} {l3 : Int64} {l5 : Int64} {l7 : Int32} {l8 : Int32} {l9 : Int32} {μ : MS} {z : ((Nat × Nat × Int64 × Int64 × Int32 × Int32 × Int32 × MS) ⊕ (Int32 × MS))} (hf : f_X2_restOfPhaseCode_9_b l0 l1 l3 l5 l7 l8 l9 μ = some z) (hk : (Sum.elim (fun s : Nat × Nat × Int64 × Int64 × Int32 × Int32 × Int32 × MS => WW X D cy b r μ' 12 0 0 9 [(0, .ref (b + s.1)), (1, .ref (b + s.2.1)), (3, .long s.2.2.1), (5, .long s.2.2.2.1), (7, .int s.2.2.2.2.1), (8, .int s.2.2.2.2.2.1), (9, .int s.2.2.2.2.2.2.1)] [] s.2.2.2.2.2.2.2) (fun z : Int32 × MS => r = some (.int z.1) ∧ μ' = z.2)) z) : WW X D cy b r μ' 12 0 0 9 [(0, .ref (b + l0)), (1, .ref (b + l1)), (3, .long l3), (5, .long l5), (7, .int l7), (8, .int l8), (9, .int l9)] [] μ := by
  unfold f_X2_restOfPhaseCode_9_b at hf
  refine r_iload hB 6 rfl (by decide +kernel : decode cX2_restOfPhaseCode 9 = .ok (.iload 9, 2)) ?_
  refine r_aload_n hB 1 rfl (by decide +kernel : decode cX2_restOfPhaseCode 11 = .ok (.aload_n 1, 1)) rfl ?_
  refine r_gI hB cf6 6 (by decide) (own := "PulseRemote$Decoder") rfl (Or.inr ⟨_, k_144⟩) (by decide +kernel) (by decide +kernel : decode cX2_restOfPhaseCode 12 = .ok (.getfield 91, 3)) hf (fun x12 hf => ?_)
  refine r_icmp_ge hB (tgt := 120) (by decide +kernel : decode cX2_restOfPhaseCode 15 = .ok (.if_icmp .ge 105, 3)) (by decide) hf (fun _ hf => ?_) (fun _ hf => ?_)
  · obtain ⟨_, hx0, rfl⟩ := xr_inv hf
    exact WW.sub [5] rfl (t_X2_restOfPhaseCode_120 hB hx0 hk)
  · refine r_iload hB 6 rfl (by decide +kernel : decode cX2_restOfPhaseCode 18 = .ok (.iload 9, 2)) ?_
    refine r_bipush hB (v := 16) (by decide +kernel : decode cX2_restOfPhaseCode 20 = .ok (.bipush 16, 2)) (by decide +kernel) ?_
    refine r_icmp_ge hB (tgt := 120) (by decide +kernel : decode cX2_restOfPhaseCode 22 = .ok (.if_icmp .ge 98, 3)) (by decide) hf (fun _ hf => ?_) (fun _ hf => ?_)
    · obtain ⟨_, hx0, rfl⟩ := xr_inv hf
      exact WW.sub [5] rfl (t_X2_restOfPhaseCode_120 hB hx0 hk)
    · refine r_iload hB 4 rfl (by decide +kernel : decode cX2_restOfPhaseCode 25 = .ok (.iload 7, 2)) ?_
      refine r_iconst hB (v := 2) (by decide +kernel : decode cX2_restOfPhaseCode 27 = .ok (.iconst 2, 1)) (by decide +kernel) ?_
      refine r_irem hB (by decide +kernel : decode cX2_restOfPhaseCode 28 = .ok (.irem, 1)) hf (fun v28 hf => ?_)
      refine r_if_ne hB (tgt := 36) (by decide +kernel : decode cX2_restOfPhaseCode 29 = .ok (.ifCond .ne 7, 3)) (by decide) hf (fun _ hf => ?_) (fun _ hf => ?_)
      · refine r_iconst hB (v := 1) (by decide +kernel : decode cX2_restOfPhaseCode 32 = .ok (.iconst 1, 1)) (by decide +kernel) ?_
        refine r_goto hB (tgt := 37) (by decide +kernel : decode cX2_restOfPhaseCode 33 = .ok (.goto 4, 3)) (by decide) ?_
        exact WW.sub [0, 1, 2, 3, 4, 5, 6] rfl (t_X2_restOfPhaseCode_37 hB hf hk)
      · refine r_iconst hB (v := 0) (by decide +kernel : decode cX2_restOfPhaseCode 36 = .ok (.iconst 0, 1)) (by decide +kernel) ?_
        exact WW.sub [0, 1, 2, 3, 4, 5, 6] rfl (t_X2_restOfPhaseCode_37 hB hf hk)
set_option maxHeartbeats 4000000 in
set_option maxRecDepth 100000 in
theorem t_X2_restOfPhaseCode_9 {X : BX} {D : va_G} {cy : Nat → ClassId} {b : Nat} {r : Option Value} {μ' : MS} (hB : BB X D cy b yX2_restOfPhaseCode cX2_restOfPhaseCode 12 (some .int) rmX2_restOfPhaseCode) {l0 : Nat} {l1 : Nat} {l3 : Int64} {l5 : Int64} {l7 : Int32} {l8 : Int32} {l9 : Int32} {μ : MS} {z : (Int32 × MS)} (hf : f_X2_restOfPhaseCode_9 l0 l1 l3 l5 l7 l8 l9 μ = some z) (hk : (fun z : Int32 × MS => r = some (.int z.1) ∧ μ' = z.2) z) : WW X D cy b r μ' 12 0 0 9 [(0, .ref (b + l0)), (1, .ref (b + l1)), (3, .long l3), (5, .long l5), (7, .int l7), (8, .int l8), (9, .int l9)] [] μ :=
  lp_ind (P := fun s : Nat × Nat × Int64 × Int64 × Int32 × Int32 × Int32 × MS => WW X D cy b r μ' 12 0 0 9 [(0, .ref (b + s.1)), (1, .ref (b + s.2.1)), (3, .long s.2.2.1), (5, .long s.2.2.2.1), (7, .int s.2.2.2.2.1), (8, .int s.2.2.2.2.2.1), (9, .int s.2.2.2.2.2.2.1)] [] s.2.2.2.2.2.2.2) (Q := (fun z : Int32 × MS => r = some (.int z.1) ∧ μ' = z.2)) (fun s z hz hk => t_X2_restOfPhaseCode_9_b hB hz hk) (l0, l1, l3, l5, l7, l8, l9, μ) z hf hk
set_option maxHeartbeats 4000000 in
set_option maxRecDepth 100000 in
theorem t_X2_restOfPhaseCode_0 {X : BX} {D : va_G} {cy : Nat → ClassId} {b : Nat} {r : Option Value} {μ' : MS} (hB : BB X D cy b yX2_restOfPhaseCode cX2_restOfPhaseCode 12 (some .int) rmX2_restOfPhaseCode) {l0 : Nat} {l1 : Nat} {l2 : Int32} {l3 : Int64} {l5 : Int64} {μ : MS} {z : (Int32 × MS)} (hf : f_X2_restOfPhaseCode l0 l1 l2 l3 l5 μ = some z) (hk : (fun z : Int32 × MS => r = some (.int z.1) ∧ μ' = z.2) z) : WW X D cy b r μ' 12 0 0 0 [(0, .ref (b + l0)), (1, .ref (b + l1)), (2, .int l2), (3, .long l3), (5, .long l5)] [] μ := by
  unfold f_X2_restOfPhaseCode at hf
  refine r_iload_n hB 2 rfl (by decide +kernel : decode cX2_restOfPhaseCode 0 = .ok (.iload_n 2, 1)) rfl ?_
  refine r_istore hB (by decide +kernel : decode cX2_restOfPhaseCode 1 = .ok (.istore 7, 2)) (by decide) rfl ?_
  refine ww_lv (lv' := [(7, .int l2), (0, .ref (b + l0)), (1, .ref (b + l1)), (2, .int l2), (3, .long l3), (5, .long l5)]) rfl ?_
  refine r_iconst hB (v := 0) (by decide +kernel : decode cX2_restOfPhaseCode 3 = .ok (.iconst 0, 1)) (by decide +kernel) ?_
  refine r_istore hB (by decide +kernel : decode cX2_restOfPhaseCode 4 = .ok (.istore 8, 2)) (by decide) rfl ?_
  refine ww_lv (lv' := [(8, .int 0), (7, .int l2), (0, .ref (b + l0)), (1, .ref (b + l1)), (2, .int l2), (3, .long l3), (5, .long l5)]) rfl ?_
  refine r_iconst hB (v := 1) (by decide +kernel : decode cX2_restOfPhaseCode 6 = .ok (.iconst 1, 1)) (by decide +kernel) ?_
  refine r_istore hB (by decide +kernel : decode cX2_restOfPhaseCode 7 = .ok (.istore 9, 2)) (by decide) rfl ?_
  refine ww_lv (lv' := [(9, .int 1), (8, .int 0), (7, .int l2), (0, .ref (b + l0)), (1, .ref (b + l1)), (2, .int l2), (3, .long l3), (5, .long l5)]) rfl ?_
  exact WW.sub [3, 4, 6, 7, 2, 1, 0] rfl (t_X2_restOfPhaseCode_9 hB hf hk)
theorem m_X2_restOfPhaseCode (l : Launch) (D : va_G) (cy : Nat → ClassId) (b : Nat) {l0 : Nat} {l1 : Nat} {l2 : Int32} {l3 : Int64} {l5 : Int64} {μ : MS} {z : Int32 × MS} (hf : f_X2_restOfPhaseCode l0 l1 l2 l3 l5 μ = some z) : Met l yX2_restOfPhaseCode (.code yX2_restOfPhaseCode cX2_restOfPhaseCode 12 (some .int) :: GW) rmX2_restOfPhaseCode (Pw D cy b [.ref (b + l0), .ref (b + l1), .int l2, .long l3, .long l5] μ) (Qw D cy b (some (.int z.1)) (z.2)) rmX2_restOfPhaseCode.cells rmX2_restOfPhaseCode.slots (fun q => b ≤ q) :=
  met_of (by decide) (Nat.le_of_ble_eq_true rfl) (fun X hB _ => (t_X2_restOfPhaseCode_0 hB hf ⟨rfl, rfl⟩))
-- PulseRemote$Decoder.phaseCode(LPulseRemote$Protocol;)I
set_option maxHeartbeats 4000000 in
set_option maxRecDepth 100000 in
theorem t_X2_phaseCode_175 {X : BX} {D : va_G} {cy : Nat → ClassId} {b : Nat} {r : Option Value} {μ' : MS} (hB : BB X D cy b yX2_phaseCode cX2_phaseCode 11 (some .int) rmX2_phaseCode) {l0 : Nat} {l1 : Nat} {l2 : Int64} {l4 : Int64} {l6 : Int64} {μ : MS} {z : (Int32 × MS)} (hf : f_X2_phaseCode_175 l0 l1 l2 l4 l6 μ = some z) (hk : (fun z : Int32 × MS => r = some (.int z.1) ∧ μ' = z.2) z) : WW X D cy b r μ' 11 0 0 175 [(0, .ref (b + l0)), (1, .ref (b + l1)), (2, .long l2), (4, .long l4), (6, .long l6)] [] μ := by
  unfold f_X2_phaseCode_175 at hf
  refine r_aload_n hB 0 rfl (by decide +kernel : decode cX2_phaseCode 175 = .ok (.aload_n 0, 1)) rfl ?_
  refine r_iconst hB (v := 1) (by decide +kernel : decode cX2_phaseCode 176 = .ok (.iconst 1, 1)) (by decide +kernel) ?_
  refine r_aload_n hB 1 rfl (by decide +kernel : decode cX2_phaseCode 177 = .ok (.aload_n 1, 1)) rfl ?_
  refine r_gI hB cf6 2 (by decide) (own := "PulseRemote$Decoder") rfl (Or.inr ⟨_, k_131⟩) (by decide +kernel) (by decide +kernel : decode cX2_phaseCode 178 = .ok (.getfield 81, 3)) hf (fun x178 hf => ?_)
  refine r_cVi hB [.int 1, .int x178] [] cf2 (own := "PulseRemote$Decoder") rfl cmX2_fits imX2_fits (Or.inl k_973) (by decide) rfl rfl rfl (Nat.le_of_ble_eq_true rfl) (by decide +kernel : decode cX2_phaseCode 181 = .ok (.invokevirtual 77, 3)) (fun z hz => m_X2_fits _ _ _ _ hz) rfl hf (fun z181 hf => ?_)
  refine r_if_eq hB (tgt := 225) (by decide +kernel : decode cX2_phaseCode 184 = .ok (.ifCond .eq 41, 3)) (by decide) hf (fun _ hf => ?_) (fun _ hf => ?_)
  · refine r_bipush hB (v := (-9)) (by decide +kernel : decode cX2_phaseCode 225 = .ok (.bipush (-9), 2)) (by decide +kernel) ?_
    obtain rfl := Option.some.inj hf
    obtain ⟨rfl, rfl⟩ := hk
    exact r_iret hB (by decide +kernel : decode cX2_phaseCode 227 = .ok (.ireturn, 1))
  · refine r_lload_n hB 2 rfl (by decide +kernel : decode cX2_phaseCode 187 = .ok (.lload_n 2, 1)) rfl ?_
    refine r_iconst hB (v := 2) (by decide +kernel : decode cX2_phaseCode 188 = .ok (.iconst 2, 1)) (by decide +kernel) ?_
    refine r_cSi hB [.long l2, .int 2] [] (own := "PulseRemote$Decoder") rfl cmX2_isIn smX2_isIn (Or.inl ⟨rfl, k_985⟩) (by decide) rfl rfl rfl (Nat.le_of_ble_eq_true rfl) (by decide +kernel : decode cX2_phaseCode 189 = .ok (.invokestatic 112, 3)) (fun z hz => m_X2_isIn _ _ _ _ hz) rfl hf (fun z189 hf => ?_)
    refine r_if_eq hB (tgt := 225) (by decide +kernel : decode cX2_phaseCode 192 = .ok (.ifCond .eq 33, 3)) (by decide) hf (fun _ hf => ?_) (fun _ hf => ?_)
    · refine r_bipush hB (v := (-9)) (by decide +kernel : decode cX2_phaseCode 225 = .ok (.bipush (-9), 2)) (by decide +kernel) ?_
      obtain rfl := Option.some.inj hf
      obtain ⟨rfl, rfl⟩ := hk
      exact r_iret hB (by decide +kernel : decode cX2_phaseCode 227 = .ok (.ireturn, 1))
    · refine r_aload_n hB 0 rfl (by decide +kernel : decode cX2_phaseCode 195 = .ok (.aload_n 0, 1)) rfl ?_
      refine r_gR hB cf2 5 (by decide) (own := "PulseRemote$Decoder") rfl (Or.inl k_303) (by decide +kernel) (by decide +kernel : decode cX2_phaseCode 196 = .ok (.getfield 22, 3)) hf (fun x196 hf => ?_)
      refine r_iconst hB (v := 1) (by decide +kernel : decode cX2_phaseCode 199 = .ok (.iconst 1, 1)) (by decide +kernel) ?_
      refine r_lald hB (by decide +kernel : decode cX2_phaseCode 200 = .ok (.laload, 1)) hf (fun x200 hf => ?_)
      refine r_iconst hB (v := 3) (by decide +kernel : decode cX2_phaseCode 201 = .ok (.iconst 3, 1)) (by decide +kernel) ?_
      refine r_cSi hB [.long x200, .int 3] [] (own := "PulseRemote$Decoder") rfl cmX2_isIn smX2_isIn (Or.inl ⟨rfl, k_985⟩) (by decide) rfl rfl rfl (Nat.le_of_ble_eq_true rfl) (by decide +kernel : decode cX2_phaseCode 202 = .ok (.invokestatic 112, 3)) (fun z hz => m_X2_isIn _ _ _ _ hz) rfl hf (fun z202 hf => ?_)
      refine r_if_eq hB (tgt := 225) (by decide +kernel : decode cX2_phaseCode 205 = .ok (.ifCond .eq 20, 3)) (by decide) hf (fun _ hf => ?_) (fun _ hf => ?_)
      · refine r_bipush hB (v := (-9)) (by decide +kernel : decode cX2_phaseCode 225 = .ok (.bipush (-9), 2)) (by decide +kernel) ?_
        obtain rfl := Option.some.inj hf
        obtain ⟨rfl, rfl⟩ := hk
        exact r_iret hB (by decide +kernel : decode cX2_phaseCode 227 = .ok (.ireturn, 1))
      · refine r_aload_n hB 1 rfl (by decide +kernel : decode cX2_phaseCode 208 = .ok (.aload_n 1, 1)) rfl ?_
        refine r_iconst hB (v := 0) (by decide +kernel : decode cX2_phaseCode 209 = .ok (.iconst 0, 1)) (by decide +kernel) ?_
        refine r_cVi hB [.int 0] [] cf6 (own := "PulseRemote$Decoder") rfl cmX6_maskAt imX6_maskAt (Or.inl k_992) (by decide) rfl rfl rfl (Nat.le_of_ble_eq_true rfl) (by decide +kernel : decode cX2_phaseCode 210 = .ok (.invokevirtual 100, 3)) (fun z hz => m_X6_maskAt _ _ _ _ hz) rfl hf (fun z210 hf => ?_)
        refine r_aload_n hB 0 rfl (by decide +kernel : decode cX2_phaseCode 213 = .ok (.aload_n 0, 1)) rfl ?_
        refine r_aload_n hB 1 rfl (by decide +kernel : decode cX2_phaseCode 214 = .ok (.aload_n 1, 1)) rfl ?_
        refine r_iconst hB (v := 3) (by decide +kernel : decode cX2_phaseCode 215 = .ok (.iconst 3, 1)) (by decide +kernel) ?_
        refine r_lload hB 4 rfl (by decide +kernel : decode cX2_phaseCode 216 = .ok (.lload 6, 2)) ?_
        refine r_lload hB 3 rfl (by decide +kernel : decode cX2_phaseCode 218 = .ok (.lload 4, 2)) ?_
        refine r_cVi hB [.ref (b + l1), .int 3, .long l6, .long l4] [.int z210.1] cf2 (own := "PulseRemote$Decoder") rfl cmX2_restOfPhaseCode imX2_restOfPhaseCode (Or.inl k_988) (by decide) rfl rfl rfl (Nat.le_of_ble_eq_true rfl) (by decide +kernel : decode cX2_phaseCode 220 = .ok (.invokevirtual 116, 3)) (fun z hz => m_X2_restOfPhaseCode _ _ _ _ hz) rfl hf (fun z220 hf => ?_)
        refine r_ior hB (by decide +kernel : decode cX2_phaseCode 223 = .ok (.ior, 1)) ?_
        obtain rfl := Option.some.inj hf
        obtain ⟨rfl, rfl⟩ := hk
        exact r_iret hB (by decide +kernel : decode cX2_phaseCode 224 = .ok (.ireturn, 1))
set_option maxHeartbeats 4000000 in
set_option maxRecDepth 100000 in
theorem t_X2_phaseCode_134 {X : BX} {D : va_G} {cy : Nat → ClassId} {b : Nat} {r : Option Value} {μ' : MS} (hB : BB X D cy b yX2_phaseCode cX2_phaseCode 11 (some .int) rmX2_phaseCode) {l0 : Nat} {l1 : Nat} {l2 : Int64} {l4 : Int64} {l6 : Int64} {μ : MS} {z : (Int32 × MS)} (hf : f_X2_phaseCode_134 l0 l1 l2 l4 l6 μ = some z) (hk : (fun z : Int32 × MS => r = some (.int z.1) ∧ μ' = z.2) z) : WW X D cy b r μ' 11 0 0 134 [(0, .ref (b + l0)), (1, .ref (b + l1)), (2, .long l2), (4, .long l4), (6, .long l6)] [] μ := by
  unfold f_X2_phaseCode_134 at hf
  refine r_aload_n hB 0 rfl (by decide +kernel : decode cX2_phaseCode 134 = .ok (.aload_n 0, 1)) rfl ?_
  refine r_iconst hB (v := 1) (by decide +kernel : decode cX2_phaseCode 135 = .ok (.iconst 1, 1)) (by decide +kernel) ?_
  refine r_aload_n hB 1 rfl (by decide +kernel : decode cX2_phaseCode 136 = .ok (.aload_n 1, 1)) rfl ?_
  refine r_gI hB cf6 2 (by decide) (own := "PulseRemote$Decoder") rfl (Or.inr ⟨_, k_131⟩) (by decide +kernel) (by decide +kernel : decode cX2_phaseCode 137 = .ok (.getfield 81, 3)) hf (fun x137 hf => ?_)
  refine r_aload_n hB 1 rfl (by decide +kernel : decode cX2_phaseCode 140 = .ok (.aload_n 1, 1)) rfl ?_
  refine r_gI hB cf6 3 (by decide) (own := "PulseRemote$Decoder") rfl (Or.inr ⟨_, k_134⟩) (by decide +kernel) (by decide +kernel : decode cX2_phaseCode 141 = .ok (.getfield 84, 3)) hf (fun x141 hf => ?_)
  refine r_iadd hB (by decide +kernel : decode cX2_phaseCode 144 = .ok (.iadd, 1)) ?_
  refine r_cVi hB [.int 1, .int (x137 + x141)] [] cf2 (own := "PulseRemote$Decoder") rfl cmX2_fits imX2_fits (Or.inl k_973) (by decide) rfl rfl rfl (Nat.le_of_ble_eq_true rfl) (by decide +kernel : decode cX2_phaseCode 145 = .ok (.invokevirtual 77, 3)) (fun z hz => m_X2_fits _ _ _ _ hz) rfl hf (fun z145 hf => ?_)
  refine r_if_eq hB (tgt := 175) (by decide +kernel : decode cX2_phaseCode 148 = .ok (.ifCond .eq 27, 3)) (by decide) hf (fun _ hf => ?_) (fun _ hf => ?_)
  · exact WW.sub [0, 1, 2, 3, 4] rfl (t_X2_phaseCode_175 hB hf hk)
  · refine r_aload_n hB 0 rfl (by decide +kernel : decode cX2_phaseCode 151 = .ok (.aload_n 0, 1)) rfl ?_
    refine r_gR hB cf2 5 (by decide) (own := "PulseRemote$Decoder") rfl (Or.inl k_303) (by decide +kernel) (by decide +kernel : decode cX2_phaseCode 152 = .ok (.getfield 22, 3)) hf (fun x152 hf => ?_)
    refine r_iconst hB (v := 1) (by decide +kernel : decode cX2_phaseCode 155 = .ok (.iconst 1, 1)) (by decide +kernel) ?_
    refine r_lald hB (by decide +kernel : decode cX2_phaseCode 156 = .ok (.laload, 1)) hf (fun x156 hf => ?_)
    refine r_iconst hB (v := 2) (by decide +kernel : decode cX2_phaseCode 157 = .ok (.iconst 2, 1)) (by decide +kernel) ?_
    refine r_cSi hB [.long x156, .int 2] [] (own := "PulseRemote$Decoder") rfl cmX2_isIn smX2_isIn (Or.inl ⟨rfl, k_985⟩) (by decide) rfl rfl rfl (Nat.le_of_ble_eq_true rfl) (by decide +kernel : decode cX2_phaseCode 158 = .ok (.invokestatic 112, 3)) (fun z hz => m_X2_isIn _ _ _ _ hz) rfl hf (fun z158 hf => ?_)
    refine r_if_eq hB (tgt := 175) (by decide +kernel : decode cX2_phaseCode 161 = .ok (.ifCond .eq 14, 3)) (by decide) hf (fun _ hf => ?_) (fun _ hf => ?_)
    · exact WW.sub [0, 1, 2, 3, 4] rfl (t_X2_phaseCode_175 hB hf hk)
    · refine r_aload_n hB 0 rfl (by decide +kernel : decode cX2_phaseCode 164 = .ok (.aload_n 0, 1)) rfl ?_
      refine r_aload_n hB 1 rfl (by decide +kernel : decode cX2_phaseCode 165 = .ok (.aload_n 1, 1)) rfl ?_
      refine r_iconst hB (v := 2) (by decide +kernel : decode cX2_phaseCode 166 = .ok (.iconst 2, 1)) (by decide +kernel) ?_
      refine r_lload hB 4 rfl (by decide +kernel : decode cX2_phaseCode 167 = .ok (.lload 6, 2)) ?_
      refine r_lload hB 3 rfl (by decide +kernel : decode cX2_phaseCode 169 = .ok (.lload 4, 2)) ?_
      refine r_cVi hB [.ref (b + l1), .int 2, .long l6, .long l4] [] cf2 (own := "PulseRemote$Decoder") rfl cmX2_restOfPhaseCode imX2_restOfPhaseCode (Or.inl k_988) (by decide) rfl rfl rfl (Nat.le_of_ble_eq_true rfl) (by decide +kernel : decode cX2_phaseCode 171 = .ok (.invokevirtual 116, 3)) (fun z hz => m_X2_restOfPhaseCode _ _ _ _ hz) rfl hf (fun z171 hf => ?_)
      obtain rfl := Option.some.inj hf
      obtain ⟨rfl, rfl⟩ := hk
      exact r_iret hB (by decide +kernel : decode cX2_phaseCode 174 = .ok (.ireturn, 1))
set_option maxHeartbeats 4000000 in
set_option maxRecDepth 100000 in
theorem t_X2_phaseCode_96_b {X : BX} {D : va_G} {cy : Nat → ClassId} {b : Nat} {r : Option Value} {μ' : MS} (hB : BB X D cy b yX2_phaseCode cX2_phaseCode 11 (some .int) rmX2_phaseCode) {l0 : Nat} {l1 : Nat} {l2 : Int64} {l4 : Int64} {l6 : Int64} {l8 : Int64} {l10 : Int32} {μ : MS} {z : ((Nat × Nat × Int64 × Int64 × Int64 × Int64 × Int32 × MS) ⊕ (Int32 × MS))} (hf : f_X2_phaseCode_96_b l0 l1 l2 l4 l6 l8 l10 μ = some z) (hk : (Sum.elim (fun s : Nat × Nat × Int64 × Int64 × Int64 × Int64 × Int32 × MS => WW X D cy b r μ' 11 0 0 96 [(0, .ref (b + s.1)), (1, .ref (b + s.2.1)), (2, .long s.2.2.1), (4, .long s.2.2.2.1), (6, .long s.2.2.2.2.1), (8, .long s.2.2.2.2.2.1), (10, .int s.2.2.2.2.2.2.1)] [] s.2.2.2.2.2.2.2) (fun z : Int32 × MS => r = some (.int z.1) ∧ μ' = z.2)) z) : WW X D cy b r μ' 11 0 0 96 [(0, .ref (b + l0)), (1, .ref (b + l1)), (2, .long l2), (4, .long l4), (6, .long l6), (8, .long l8), (10, .int l10)] [] μ := by
  unfold f_X2_phaseCode_96_b at hf
  refine r_iload hB 6 rfl (by decide +kernel : decode cX2_phaseCode 96 = .ok (.iload 10, 2)) ?_
  refine r_iconst hB (v := 1) (by decide +kernel : decode cX2_phaseCode 98 = .ok (.iconst 1, 1)) (by decide +kernel) ?_
  refine r_icmp_lt hB (tgt := 134) (by decide +kernel : decode cX2_phaseCode 99 = .ok (.if_icmp .lt 35, 3)) (by decide) hf (fun _ hf => ?_) (fun _ hf => ?_)
  · obtain ⟨_, hx0, rfl⟩ := xr_inv hf
    exact WW.sub [0, 1, 2, 3, 4] rfl (t_X2_phaseCode_134 hB hx0 hk)
  · refine r_aload_n hB 0 rfl (by decide +kernel : decode cX2_phaseCode 102 = .ok (.aload_n 0, 1)) rfl ?_
    refine r_gR hB cf2 5 (by decide) (own := "PulseRemote$Decoder") rfl (Or.inl k_303) (by decide +kernel) (by decide +kernel : decode cX2_phaseCode 103 = .ok (.getfield 22, 3)) hf (fun x103 hf => ?_)
    refine r_iload hB 6 rfl (by decide +kernel : decode cX2_phaseCode 106 = .ok (.iload 10, 2)) ?_
    refine r_lload hB 5 rfl (by decide +kernel : decode cX2_phaseCode 108 = .ok (.lload 8, 2)) ?_
    refine r_last hB (by decide +kernel : decode cX2_phaseCode 110 = .ok (.lastore, 1)) hf (fun m110 hf => ?_)
    refine r_lload hB 5 rfl (by decide +kernel : decode cX2_phaseCode 111 = .ok (.lload 8, 2)) ?_
    refine r_iconst hB (v := 1) (by decide +kernel : decode cX2_phaseCode 113 = .ok (.iconst 1, 1)) (by decide +kernel) ?_
    refine r_lushr hB (by decide +kernel : decode cX2_phaseCode 114 = .ok (.lushr, 1)) ?_
    refine r_lload hB 3 rfl (by decide +kernel : decode cX2_phaseCode 115 = .ok (.lload 4, 2)) ?_
    refine r_land hB (by decide +kernel : decode cX2_phaseCode 117 = .ok (.land, 1)) ?_
    refine r_lload hB 5 rfl (by decide +kernel : decode cX2_phaseCode 118 = .ok (.lload 8, 2)) ?_
    refine r_iconst hB (v := 2) (by decide +kernel : decode cX2_phaseCode 120 = .ok (.iconst 2, 1)) (by decide +kernel) ?_
    refine r_lushr hB (by decide +kernel : decode cX2_phaseCode 121 = .ok (.lushr, 1)) ?_
    refine r_lload hB 4 rfl (by decide +kernel : decode cX2_phaseCode 122 = .ok (.lload 6, 2)) ?_
    refine r_land hB (by decide +kernel : decode cX2_phaseCode 124 = .ok (.land, 1)) ?_
    refine r_lor hB (by decide +kernel : decode cX2_phaseCode 125 = .ok (.lor, 1)) ?_
    refine r_nameL hf (fun v126 hf => ?_)
    refine r_lstore hB (by decide +kernel : decode cX2_phaseCode 126 = .ok (.lstore 8, 2)) (by decide) rfl ?_
    refine ww_lv (lv' := [(8, .long v126), (0, .ref (b + l0)), (1, .ref (b + l1)), (2, .long l2), (4, .long l4), (6, .long l6), (10, .int l10)]) rfl ?_
    refine r_iincB hB 6 rfl (by decide +kernel : decode cX2_phaseCode 128 = .ok (.iinc 10 (-1), 3)) (w := (-1)) (by decide +kernel) (by decide) hf (fun v128 hf => ?_)
    refine ww_lv (lv' := [(10, .int v128), (8, .long v126), (0, .ref (b + l0)), (1, .ref (b + l1)), (2, .long l2), (4, .long l4), (6, .long l6)]) rfl ?_
    refine r_goto hB (tgt := 96) (by decide +kernel : decode cX2_phaseCode 131 = .ok (.goto (-35), 3)) (by decide) ?_
    obtain rfl := Option.some.inj hf
    exact WW.sub [2, 3, 4, 5, 6, 1, 0] rfl hk
set_option maxHeartbeats 4000000 in
set_option maxRecDepth 100000 in
theorem t_X2_phaseCode_96 {X : BX} {D : va_G} {cy : Nat → ClassId} {b : Nat} {r : Option Value} {μ' : MS} (hB : BB X D cy b yX2_phaseCode cX2_phaseCode 11 (some .int) rmX2_phaseCode) {l0 : Nat} {l1 : Nat} {l2 : Int64} {l4 : Int64} {l6 : Int64} {l8 : Int64} {l10 : Int32} {μ : MS} {z : (Int32 × MS)} (hf : f_X2_phaseCode_96 l0 l1 l2 l4 l6 l8 l10 μ = some z) (hk : (fun z : Int32 × MS => r = some (.int z.1) ∧ μ' = z.2) z) : WW X D cy b r μ' 11 0 0 96 [(0, .ref (b + l0)), (1, .ref (b + l1)), (2, .long l2), (4, .long l4), (6, .long l6), (8, .long l8), (10, .int l10)] [] μ :=
  lp_ind (P := fun s : Nat × Nat × Int64 × Int64 × Int64 × Int64 × Int32 × MS => WW X D cy b r μ' 11 0 0 96 [(0, .ref (b + s.1)), (1, .ref (b + s.2.1)), (2, .long s.2.2.1), (4, .long s.2.2.2.1), (6, .long s.2.2.2.2.1), (8, .long s.2.2.2.2.2.1), (10, .int s.2.2.2.2.2.2.1)] [] s.2.2.2.2.2.2.2) (Q := (fun z : Int32 × MS => r = some (.int z.1) ∧ μ' = z.2)) (fun s z hz hk => t_X2_phaseCode_96_b hB hz hk) (l0, l1, l2, l4, l6, l8, l10, μ) z hf hk
set_option maxHeartbeats 4000000 in
set_option maxRecDepth 100000 in
theorem t_X2_phaseCode_0 {X : BX} {D : va_G} {cy : Nat → ClassId} {b : Nat} {r : Option Value} {μ' : MS} (hB : BB X D cy b yX2_phaseCode cX2_phaseCode 11 (some .int) rmX2_phaseCode) {l0 : Nat} {l1 : Nat} {μ : MS} {z : (Int32 × MS)} (hf : f_X2_phaseCode l0 l1 μ = some z) (hk : (fun z : Int32 × MS => r = some (.int z.1) ∧ μ' = z.2) z) : WW X D cy b r μ' 11 0 0 0 [(0, .ref (b + l0)), (1, .ref (b + l1))] [] μ := by
  unfold f_X2_phaseCode at hf
  refine r_aload_n hB 0 rfl (by decide +kernel : decode cX2_phaseCode 0 = .ok (.aload_n 0, 1)) rfl ?_
  refine r_gI hB cf2 3 (by decide) (own := "PulseRemote$Decoder") rfl (Or.inl k_301) (by decide +kernel) (by decide +kernel : decode cX2_phaseCode 1 = .ok (.getfield 64, 3)) hf (fun x1 hf => ?_)
  refine r_iconst hB (v := 3) (by decide +kernel : decode cX2_phaseCode 4 = .ok (.iconst 3, 1)) (by decide +kernel) ?_
  refine r_icmp_lt hB (tgt := 35) (by decide +kernel : decode cX2_phaseCode 5 = .ok (.if_icmp .lt 30, 3)) (by decide) hf (fun _ hf => ?_) (fun _ hf => ?_)
  · refine r_bipush hB (v := (-9)) (by decide +kernel : decode cX2_phaseCode 35 = .ok (.bipush (-9), 2)) (by decide +kernel) ?_
    obtain rfl := Option.some.inj hf
    obtain ⟨rfl, rfl⟩ := hk
    exact r_iret hB (by decide +kernel : decode cX2_phaseCode 37 = .ok (.ireturn, 1))
  · refine r_aload_n hB 0 rfl (by decide +kernel : decode cX2_phaseCode 8 = .ok (.aload_n 0, 1)) rfl ?_
    refine r_gI hB cf2 3 (by decide) (own := "PulseRemote$Decoder") rfl (Or.inl k_301) (by decide +kernel) (by decide +kernel : decode cX2_phaseCode 9 = .ok (.getfield 64, 3)) hf (fun x9 hf => ?_)
    refine r_iconst hB (v := 2) (by decide +kernel : decode cX2_phaseCode 12 = .ok (.iconst 2, 1)) (by decide +kernel) ?_
    refine r_aload_n hB 1 rfl (by decide +kernel : decode cX2_phaseCode 13 = .ok (.aload_n 1, 1)) rfl ?_
    refine r_gI hB cf6 6 (by decide) (own := "PulseRemote$Decoder") rfl (Or.inr ⟨_, k_144⟩) (by decide +kernel) (by decide +kernel : decode cX2_phaseCode 14 = .ok (.getfield 91, 3)) hf (fun x14 hf => ?_)
    refine r_imul hB (by decide +kernel : decode cX2_phaseCode 17 = .ok (.imul, 1)) ?_
    refine r_iconst hB (v := 1) (by decide +kernel : decode cX2_phaseCode 18 = .ok (.iconst 1, 1)) (by decide +kernel) ?_
    refine r_iadd hB (by decide +kernel : decode cX2_phaseCode 19 = .ok (.iadd, 1)) ?_
    refine r_icmp_gt hB (tgt := 35) (by decide +kernel : decode cX2_phaseCode 20 = .ok (.if_icmp .gt 15, 3)) (by decide) hf (fun _ hf => ?_) (fun _ hf => ?_)
    · refine r_bipush hB (v := (-9)) (by decide +kernel : decode cX2_phaseCode 35 = .ok (.bipush (-9), 2)) (by decide +kernel) ?_
      obtain rfl := Option.some.inj hf
      obtain ⟨rfl, rfl⟩ := hk
      exact r_iret hB (by decide +kernel : decode cX2_phaseCode 37 = .ok (.ireturn, 1))
    · refine r_aload_n hB 0 rfl (by decide +kernel : decode cX2_phaseCode 23 = .ok (.aload_n 0, 1)) rfl ?_
      refine r_iconst hB (v := 0) (by decide +kernel : decode cX2_phaseCode 24 = .ok (.iconst 0, 1)) (by decide +kernel) ?_
      refine r_aload_n hB 1 rfl (by decide +kernel : decode cX2_phaseCode 25 = .ok (.aload_n 1, 1)) rfl ?_
      refine r_gI hB cf6 1 (by decide) (own := "PulseRemote$Decoder") rfl (Or.inr ⟨_, k_128⟩) (by decide +kernel) (by decide +kernel : decode cX2_phaseCode 26 = .ok (.getfield 74, 3)) hf (fun x26 hf => ?_)
      refine r_cVi hB [.int 0, .int x26] [] cf2 (own := "PulseRemote$Decoder") rfl cmX2_fits imX2_fits (Or.inl k_973) (by decide) rfl rfl rfl (Nat.le_of_ble_eq_true rfl) (by decide +kernel : decode cX2_phaseCode 29 = .ok (.invokevirtual 77, 3)) (fun z hz => m_X2_fits _ _ _ _ hz) rfl hf (fun z29 hf => ?_)
      refine r_if_ne hB (tgt := 38) (by decide +kernel : decode cX2_phaseCode 32 = .ok (.ifCond .ne 6, 3)) (by decide) hf (fun _ hf => ?_) (fun _ hf => ?_)
      · refine r_bipush hB (v := (-9)) (by decide +kernel : decode cX2_phaseCode 35 = .ok (.bipush (-9), 2)) (by decide +kernel) ?_
        obtain rfl := Option.some.inj hf
        obtain ⟨rfl, rfl⟩ := hk
        exact r_iret hB (by decide +kernel : decode cX2_phaseCode 37 = .ok (.ireturn, 1))
      · refine r_aload_n hB 0 rfl (by decide +kernel : decode cX2_phaseCode 38 = .ok (.aload_n 0, 1)) rfl ?_
        refine r_aload_n hB 1 rfl (by decide +kernel : decode cX2_phaseCode 39 = .ok (.aload_n 1, 1)) rfl ?_
        refine r_gI hB cf6 3 (by decide) (own := "PulseRemote$Decoder") rfl (Or.inr ⟨_, k_134⟩) (by decide +kernel) (by decide +kernel : decode cX2_phaseCode 40 = .ok (.getfield 84, 3)) hf (fun x40 hf => ?_)
        refine r_cVl hB [.int x40] [] cf2 (own := "PulseRemote$Decoder") rfl cmX2_placesOf imX2_placesOf (Or.inl k_980) (by decide) rfl rfl rfl (Nat.le_of_ble_eq_true rfl) (by decide +kernel : decode cX2_phaseCode 43 = .ok (.invokevirtual 103, 3)) (fun z hz => m_X2_placesOf _ _ _ _ hz) rfl hf (fun z43 hf => ?_)
        refine r_lstore_n hB (by decide +kernel : decode cX2_phaseCode 46 = .ok (.lstore_n 2, 1)) rfl (by decide) rfl ?_
        refine ww_lv (lv' := [(2, .long z43.1), (0, .ref (b + l0)), (1, .ref (b + l1))]) rfl ?_
        refine r_aload_n hB 1 rfl (by decide +kernel : decode cX2_phaseCode 47 = .ok (.aload_n 0, 1)) rfl ?_
        refine r_iconst hB (v := 2) (by decide +kernel : decode cX2_phaseCode 48 = .ok (.iconst 2, 1)) (by decide +kernel) ?_
        refine r_aload_n hB 2 rfl (by decide +kernel : decode cX2_phaseCode 49 = .ok (.aload_n 1, 1)) rfl ?_
        refine r_gI hB cf6 3 (by decide) (own := "PulseRemote$Decoder") rfl (Or.inr ⟨_, k_134⟩) (by decide +kernel) (by decide +kernel : decode cX2_phaseCode 50 = .ok (.getfield 84, 3)) hf (fun x50 hf => ?_)
        refine r_imul hB (by decide +kernel : decode cX2_phaseCode 53 = .ok (.imul, 1)) ?_
        refine r_cVl hB [.int (2 * x50)] [] cf2 (own := "PulseRemote$Decoder") rfl cmX2_placesOf imX2_placesOf (Or.inl k_980) (by decide) rfl rfl rfl (Nat.le_of_ble_eq_true rfl) (by decide +kernel : decode cX2_phaseCode 54 = .ok (.invokevirtual 103, 3)) (fun z hz => m_X2_placesOf _ _ _ _ hz) rfl hf (fun z54 hf => ?_)
        refine r_lstore hB (by decide +kernel : decode cX2_phaseCode 57 = .ok (.lstore 4, 2)) (by decide) rfl ?_
        refine ww_lv (lv' := [(4, .long z54.1), (2, .long z43.1), (0, .ref (b + l0)), (1, .ref (b + l1))]) rfl ?_
        refine r_lload_n hB 1 rfl (by decide +kernel : decode cX2_phaseCode 59 = .ok (.lload_n 2, 1)) rfl ?_
        refine r_lload_n hB 1 rfl (by decide +kernel : decode cX2_phaseCode 60 = .ok (.lload_n 2, 1)) rfl ?_
        refine r_iconst hB (v := 1) (by decide +kernel : decode cX2_phaseCode 61 = .ok (.iconst 1, 1)) (by decide +kernel) ?_
        refine r_lushr hB (by decide +kernel : decode cX2_phaseCode 62 = .ok (.lushr, 1)) ?_
        refine r_land hB (by decide +kernel : decode cX2_phaseCode 63 = .ok (.land, 1)) ?_
        refine r_nameL hf (fun v64 hf => ?_)
        refine r_lstore hB (by decide +kernel : decode cX2_phaseCode 64 = .ok (.lstore 6, 2)) (by decide) rfl ?_
        refine ww_lv (lv' := [(6, .long v64), (4, .long z54.1), (2, .long z43.1), (0, .ref (b + l0)), (1, .ref (b + l1))]) rfl ?_
        refine r_lload_n hB 2 rfl (by decide +kernel : decode cX2_phaseCode 66 = .ok (.lload_n 2, 1)) rfl ?_
        refine r_lconst hB (v := 1) (by decide +kernel : decode cX2_phaseCode 67 = .ok (.lconst 1, 1)) (by decide +kernel) ?_
        refine r_aload_n hB 3 rfl (by decide +kernel : decode cX2_phaseCode 68 = .ok (.aload_n 0, 1)) rfl ?_
        refine r_gI hB cf2 3 (by decide) (own := "PulseRemote$Decoder") rfl (Or.inl k_301) (by decide +kernel) (by decide +kernel : decode cX2_phaseCode 69 = .ok (.getfield 64, 3)) hf (fun x69 hf => ?_)
        refine r_iconst hB (v := 1) (by decide +kernel : decode cX2_phaseCode 72 = .ok (.iconst 1, 1)) (by decide +kernel) ?_
        refine r_isub hB (by decide +kernel : decode cX2_phaseCode 73 = .ok (.isub, 1)) ?_
        refine r_lshl hB (by decide +kernel : decode cX2_phaseCode 74 = .ok (.lshl, 1)) ?_
        refine r_land hB (by decide +kernel : decode cX2_phaseCode 75 = .ok (.land, 1)) ?_
        refine r_lconst hB (v := 1) (by decide +kernel : decode cX2_phaseCode 76 = .ok (.lconst 1, 1)) (by decide +kernel) ?_
        refine r_aload_n hB 3 rfl (by decide +kernel : decode cX2_phaseCode 77 = .ok (.aload_n 0, 1)) rfl ?_
        refine r_gI hB cf2 3 (by decide) (own := "PulseRemote$Decoder") rfl (Or.inl k_301) (by decide +kernel) (by decide +kernel : decode cX2_phaseCode 78 = .ok (.getfield 64, 3)) hf (fun x78 hf => ?_)
        refine r_lshl hB (by decide +kernel : decode cX2_phaseCode 81 = .ok (.lshl, 1)) ?_
        refine r_lor hB (by decide +kernel : decode cX2_phaseCode 82 = .ok (.lor, 1)) ?_
        refine r_nameL hf (fun v83 hf => ?_)
        refine r_lstore hB (by decide +kernel : decode cX2_phaseCode 83 = .ok (.lstore 8, 2)) (by decide) rfl ?_
        refine ww_lv (lv' := [(8, .long v83), (6, .long v64), (4, .long z54.1), (2, .long z43.1), (0, .ref (b + l0)), (1, .ref (b + l1))]) rfl ?_
        refine r_aload_n hB 5 rfl (by decide +kernel : decode cX2_phaseCode 85 = .ok (.aload_n 1, 1)) rfl ?_
        refine r_gI hB cf6 6 (by decide) (own := "PulseRemote$Decoder") rfl (Or.inr ⟨_, k_144⟩) (by decide +kernel) (by decide +kernel : decode cX2_phaseCode 86 = .ok (.getfield 91, 3)) hf (fun x86 hf => ?_)
        refine r_bipush hB (v := 16) (by decide +kernel : decode cX2_phaseCode 89 = .ok (.bipush 16, 2)) (by decide +kernel) ?_
        refine r_min hB (own := "PulseRemote$Decoder") rfl k_984 k_548 k_91 k_549 (by decide +kernel : decode cX2_phaseCode 91 = .ok (.invokestatic 107, 3)) (by decide) (Nat.le_of_ble_eq_true rfl) ?_
        refine r_name hf (fun v94 hf => ?_)
        refine r_istore hB (by decide +kernel : decode cX2_phaseCode 94 = .ok (.istore 10, 2)) (by decide) rfl ?_
        refine ww_lv (lv' := [(10, .int v94), (8, .long v83), (6, .long v64), (4, .long z54.1), (2, .long z43.1), (0, .ref (b + l0)), (1, .ref (b + l1))]) rfl ?_
        exact WW.sub [5, 6, 4, 3, 2, 1, 0] rfl (t_X2_phaseCode_96 hB hf hk)
theorem m_X2_phaseCode (l : Launch) (D : va_G) (cy : Nat → ClassId) (b : Nat) {l0 : Nat} {l1 : Nat} {μ : MS} {z : Int32 × MS} (hf : f_X2_phaseCode l0 l1 μ = some z) : Met l yX2_phaseCode (.code yX2_phaseCode cX2_phaseCode 11 (some .int) :: GW) rmX2_phaseCode (Pw D cy b [.ref (b + l0), .ref (b + l1)] μ) (Qw D cy b (some (.int z.1)) (z.2)) rmX2_phaseCode.cells rmX2_phaseCode.slots (fun q => b ≤ q) :=
  met_of (by decide) (Nat.le_of_ble_eq_true rfl) (fun X hB _ => (t_X2_phaseCode_0 hB hf ⟨rfl, rfl⟩))
-- PulseRemote$Decoder.plainCode(LPulseRemote$Protocol;)I
set_option maxHeartbeats 4000000 in
set_option maxRecDepth 100000 in
theorem t_X2_plainCode_159 {X : BX} {D : va_G} {cy : Nat → ClassId} {b : Nat} {r : Option Value} {μ' : MS} (hB : BB X D cy b yX2_plainCode cX2_plainCode 6 (some .int) rmX2_plainCode) {l4 : Int32} {μ : MS} {z : (Int32 × MS)} (hf : f_X2_plainCode_159 l4 μ = some z) (hk : (fun z : Int32 × MS => r = some (.int z.1) ∧ μ' = z.2) z) : WW X D cy b r μ' 6 0 0 159 [(4, .int l4)] [] μ := by
  unfold f_X2_plainCode_159 at hf
  refine r_iload hB 0 rfl (by decide +kernel : decode cX2_plainCode 159 = .ok (.iload 4, 2)) ?_
  obtain rfl := Option.some.inj hf
  obtain ⟨rfl, rfl⟩ := hk
  exact r_iret hB (by decide +kernel : decode cX2_plainCode 161 = .ok (.ireturn, 1))
set_option maxHeartbeats 4000000 in
set_option maxRecDepth 100000 in
theorem t_X2_plainCode_135 {X : BX} {D : va_G} {cy : Nat → ClassId} {b : Nat} {r : Option Value} {μ' : MS} (hB : BB X D cy b yX2_plainCode cX2_plainCode 6 (some .int) rmX2_plainCode)  {μ : MS} {z : (Int32 × MS)} (hf : f_X2_plainCode_135  μ = some z) (hk : (fun z : Int32 × MS => r = some (.int z.1) ∧ μ' = z.2) z) : WW X D cy b r μ' 6 0 0 135 [] [] μ := by
  unfold f_X2_plainCode_135 at hf
  refine r_bipush hB (v := (-9)) (by decide +kernel : decode cX2_plainCode 135 = .ok (.bipush (-9), 2)) (by decide +kernel) ?_
  obtain rfl := Option.some.inj hf
  obtain ⟨rfl, rfl⟩ := hk
  exact r_iret hB (by decide +kernel : decode cX2_plainCode 137 = .ok (.ireturn, 1))
set_option maxHeartbeats 4000000 in
set_option maxRecDepth 100000 in
theorem t_X2_plainCode_153 {X : BX} {D : va_G} {cy : Nat → ClassId} {b : Nat} {r : Option Value} {μ' : MS} (hB : BB X D cy b yX2_plainCode cX2_plainCode 6 (some .int) rmX2_plainCode) {l0 : Nat} {l1 : Nat} {l3 : Int32} {l4 : Int32} {l5 : Int32} {μ : MS} {z : ((Nat × Nat × Int32 × Int32 × Int32 × MS) ⊕ (Int32 × MS))} (hf : f_X2_plainCode_153 l0 l1 l3 l4 l5 μ = some z) (hk : (Sum.elim (fun s : Nat × Nat × Int32 × Int32 × Int32 × MS => WW X D cy b r μ' 6 0 0 76 [(0, .ref (b + s.1)), (1, .ref (b + s.2.1)), (3, .int s.2.2.1), (4, .int s.2.2.2.1), (5, .int s.2.2.2.2.1)] [] s.2.2.2.2.2) (fun z : Int32 × MS => r = some (.int z.1) ∧ μ' = z.2)) z) : WW X D cy b r μ' 6 0 0 153 [(0, .ref (b + l0)), (1, .ref (b + l1)), (3, .int l3), (4, .int l4), (5, .int l5)] [] μ := by
  unfold f_X2_plainCode_153 at hf
  refine r_iincB hB 4 rfl (by decide +kernel : decode cX2_plainCode 153 = .ok (.iinc 5 1, 3)) (w := 1) (by decide +kernel) (by decide) hf (fun v153 hf => ?_)
  refine ww_lv (lv' := [(5, .int v153), (0, .ref (b + l0)), (1, .ref (b + l1)), (3, .int l3), (4, .int l4)]) rfl ?_
  refine r_goto hB (tgt := 76) (by decide +kernel : decode cX2_plainCode 156 = .ok (.goto (-80), 3)) (by decide) ?_
  obtain rfl := Option.some.inj hf
  exact WW.sub [1, 2, 3, 4, 0] rfl hk
set_option maxHeartbeats 4000000 in
set_option maxRecDepth 100000 in
theorem t_X2_plainCode_106 {X : BX} {D : va_G} {cy : Nat → ClassId} {b : Nat} {r : Option Value} {μ' : MS} (hB : BB X D cy b yX2_plainCode cX2_plainCode 6 (some .int) rmX2_plainCode)  {μ : MS} {z : (Int32 × MS)} (hf : f_X2_plainCode_106  μ = some z) (hk : (fun z : Int32 × MS => r = some (.int z.1) ∧ μ' = z.2) z) : WW X D cy b r μ' 6 0 0 106 [] [] μ := by
  unfold f_X2_plainCode_106 at hf
  refine r_bipush hB (v := (-9)) (by decide +kernel : decode cX2_plainCode 106 = .ok (.bipush (-9), 2)) (by decide +kernel) ?_
  obtain rfl := Option.some.inj hf
  obtain ⟨rfl, rfl⟩ := hk
  exact r_iret hB (by decide +kernel : decode cX2_plainCode 108 = .ok (.ireturn, 1))
set_option maxHeartbeats 4000000 in
set_option maxRecDepth 100000 in
theorem t_X2_plainCode_76_b {X : BX} {D : va_G} {cy : Nat → ClassId} {b : Nat} {r : Option Value} {μ' : MS} (hB : BB X D cy b yX2_plainCode cX2_plainCode 6 (some .int) rmX2_plainCode) {l0 : Nat} {l1 : Nat} {l3 : Int32} {l4 : Int32} {l5 : Int32} {μ : MS} {z : ((Nat × Nat × Int32 × Int32 × Int32 × MS) ⊕ (Int32 × MS))} (hf : f_X2_plainCode_76_b l0 l1 l3 l4 l5 μ = some z) (hk : (Sum.elim (fun s : Nat × Nat × Int32 × Int32 × Int32 × MS => WW X D cy b r μ' 6 0 0 76 [(0, .ref (b + s.1)), (1, .ref (b + s.2.1)), (3, .int s.2.2.1), (4, .int s.2.2.2.1), (5, .int s.2.2.2.2.1)] [] s.2.2.2.2.2) (fun z : Int32 × MS => r = some (.int z.1) ∧ μ' = z.2)) z) : WW X D cy b r μ' 6 0 0 76 [(0, .ref (b + l0)), (1, .ref (b + l1)), (3, .int l3), (4, .int l4), (5, .int l5)] [] μ := by
  unfold f_X2_plainCode_76_b at hf
  refine r_iload hB 4 rfl (by decide +kernel : decode cX2_plainCode 76 = .ok (.iload 5, 2)) ?_
  refine r_aload_n hB 0 rfl (by decide +kernel : decode cX2_plainCode 78 = .ok (.aload_n 0, 1)) rfl ?_
  refine r_gI hB cf2 3 (by decide) (own := "PulseRemote$Decoder") rfl (Or.inl k_301) (by decide +kernel) (by decide +kernel : decode cX2_plainCode 79 = .ok (.getfield 64, 3)) hf (fun x79 hf => ?_)
  refine r_icmp_ge hB (tgt := 159) (by decide +kernel : decode cX2_plainCode 82 = .ok (.if_icmp .ge 77, 3)) (by decide) hf (fun _ hf => ?_) (fun _ hf => ?_)
  · obtain ⟨_, hx0, rfl⟩ := xr_inv hf
    exact WW.sub [3] rfl (t_X2_plainCode_159 hB hx0 hk)
  · refine r_iload hB 4 rfl (by decide +kernel : decode cX2_plainCode 85 = .ok (.iload 5, 2)) ?_
    refine r_iconst hB (v := 2) (by decide +kernel : decode cX2_plainCode 87 = .ok (.iconst 2, 1)) (by decide +kernel) ?_
    refine r_irem hB (by decide +kernel : decode cX2_plainCode 88 = .ok (.irem, 1)) hf (fun v88 hf => ?_)
    refine r_iload_n hB 2 rfl (by decide +kernel : decode cX2_plainCode 89 = .ok (.iload_n 3, 1)) rfl ?_
    refine r_icmp_eq hB (tgt := 109) (by decide +kernel : decode cX2_plainCode 90 = .ok (.if_icmp .eq 19, 3)) (by decide) hf (fun _ hf => ?_) (fun _ hf => ?_)
    · refine r_aload_n hB 0 rfl (by decide +kernel : decode cX2_plainCode 109 = .ok (.aload_n 0, 1)) rfl ?_
      refine r_iload hB 4 rfl (by decide +kernel : decode cX2_plainCode 110 = .ok (.iload 5, 2)) ?_
      refine r_aload_n hB 1 rfl (by decide +kernel : decode cX2_plainCode 112 = .ok (.aload_n 1, 1)) rfl ?_
      refine r_gI hB cf6 4 (by decide) (own := "PulseRemote$Decoder") rfl (Or.inr ⟨_, k_137⟩) (by decide +kernel) (by decide +kernel : decode cX2_plainCode 113 = .ok (.getfield 94, 3)) hf (fun x113 hf => ?_)
      refine r_cVi hB [.int l5, .int x113] [] cf2 (own := "PulseRemote$Decoder") rfl cmX2_fits imX2_fits (Or.inl k_973) (by decide) rfl rfl rfl (Nat.le_of_ble_eq_true rfl) (by decide +kernel : decode cX2_plainCode 116 = .ok (.invokevirtual 77, 3)) (fun z hz => m_X2_fits _ _ _ _ hz) rfl hf (fun z116 hf => ?_)
      refine r_if_ne hB (tgt := 153) (by decide +kernel : decode cX2_plainCode 119 = .ok (.ifCond .ne 34, 3)) (by decide) hf (fun _ hf => ?_) (fun _ hf => ?_)
      · refine r_aload_n hB 0 rfl (by decide +kernel : decode cX2_plainCode 122 = .ok (.aload_n 0, 1)) rfl ?_
        refine r_iload hB 4 rfl (by decide +kernel : decode cX2_plainCode 123 = .ok (.iload 5, 2)) ?_
        refine r_aload_n hB 1 rfl (by decide +kernel : decode cX2_plainCode 125 = .ok (.aload_n 1, 1)) rfl ?_
        refine r_gI hB cf6 5 (by decide) (own := "PulseRemote$Decoder") rfl (Or.inr ⟨_, k_140⟩) (by decide +kernel) (by decide +kernel : decode cX2_plainCode 126 = .ok (.getfield 97, 3)) hf (fun x126 hf => ?_)
        refine r_cVi hB [.int l5, .int x126] [] cf2 (own := "PulseRemote$Decoder") rfl cmX2_fits imX2_fits (Or.inl k_973) (by decide) rfl rfl rfl (Nat.le_of_ble_eq_true rfl) (by decide +kernel : decode cX2_plainCode 129 = .ok (.invokevirtual 77, 3)) (fun z hz => m_X2_fits _ _ _ _ hz) rfl hf (fun z129 hf => ?_)
        refine r_if_ne hB (tgt := 138) (by decide +kernel : decode cX2_plainCode 132 = .ok (.ifCond .ne 6, 3)) (by decide) hf (fun _ hf => ?_) (fun _ hf => ?_)
        · obtain ⟨_, hx0, rfl⟩ := xr_inv hf
          exact WW.sub [] rfl (t_X2_plainCode_135 hB hx0 hk)
        · refine r_iload hB 3 rfl (by decide +kernel : decode cX2_plainCode 138 = .ok (.iload 4, 2)) ?_
          refine r_aload_n hB 1 rfl (by decide +kernel : decode cX2_plainCode 140 = .ok (.aload_n 1, 1)) rfl ?_
          refine r_iload hB 4 rfl (by decide +kernel : decode cX2_plainCode 141 = .ok (.iload 5, 2)) ?_
          refine r_iconst hB (v := 2) (by decide +kernel : decode cX2_plainCode 143 = .ok (.iconst 2, 1)) (by decide +kernel) ?_
          refine r_isub hB (by decide +kernel : decode cX2_plainCode 144 = .ok (.isub, 1)) ?_
          refine r_iconst hB (v := 2) (by decide +kernel : decode cX2_plainCode 145 = .ok (.iconst 2, 1)) (by decide +kernel) ?_
          refine r_idiv hB (by decide +kernel : decode cX2_plainCode 146 = .ok (.idiv, 1)) hf (fun v146 hf => ?_)
          refine r_cVi hB [.int v146] [.int l4] cf6 (own := "PulseRemote$Decoder") rfl cmX6_maskAt imX6_maskAt (Or.inl k_992) (by decide) rfl rfl rfl (Nat.le_of_ble_eq_true rfl) (by decide +kernel : decode cX2_plainCode 147 = .ok (.invokevirtual 100, 3)) (fun z hz => m_X6_maskAt _ _ _ _ hz) rfl hf (fun z147 hf => ?_)
          refine r_ior hB (by decide +kernel : decode cX2_plainCode 150 = .ok (.ior, 1)) ?_
          refine r_name hf (fun v151 hf => ?_)
          refine r_istore hB (by decide +kernel : decode cX2_plainCode 151 = .ok (.istore 4, 2)) (by decide) rfl ?_
          refine ww_lv (lv' := [(4, .int v151), (0, .ref (b + l0)), (1, .ref (b + l1)), (3, .int l3), (5, .int l5)]) rfl ?_
          exact WW.sub [1, 2, 3, 0, 4] rfl (t_X2_plainCode_153 hB hf hk)
      · exact WW.sub [0, 1, 2, 3, 4] rfl (t_X2_plainCode_153 hB hf hk)
    · refine r_aload_n hB 0 rfl (by decide +kernel : decode cX2_plainCode 93 = .ok (.aload_n 0, 1)) rfl ?_
      refine r_iload hB 4 rfl (by decide +kernel : decode cX2_plainCode 94 = .ok (.iload 5, 2)) ?_
      refine r_aload_n hB 1 rfl (by decide +kernel : decode cX2_plainCode 96 = .ok (.aload_n 1, 1)) rfl ?_
      refine r_gI hB cf6 3 (by decide) (own := "PulseRemote$Decoder") rfl (Or.inr ⟨_, k_134⟩) (by decide +kernel) (by decide +kernel : decode cX2_plainCode 97 = .ok (.getfield 84, 3)) hf (fun x97 hf => ?_)
      refine r_cVi hB [.int l5, .int x97] [] cf2 (own := "PulseRemote$Decoder") rfl cmX2_fits imX2_fits (Or.inl k_973) (by decide) rfl rfl rfl (Nat.le_of_ble_eq_true rfl) (by decide +kernel : decode cX2_plainCode 100 = .ok (.invokevirtual 77, 3)) (fun z hz => m_X2_fits _ _ _ _ hz) rfl hf (fun z100 hf => ?_)
      refine r_if_ne hB (tgt := 153) (by decide +kernel : decode cX2_plainCode 103 = .ok (.ifCond .ne 50, 3)) (by decide) hf (fun _ hf => ?_) (fun _ hf => ?_)
      · obtain ⟨_, hx0, rfl⟩ := xr_inv hf
        exact WW.sub [] rfl (t_X2_plainCode_106 hB hx0 hk)
      · exact WW.sub [0, 1, 2, 3, 4] rfl (t_X2_plainCode_153 hB hf hk)
set_option maxHeartbeats 4000000 in
set_option maxRecDepth 100000 in
theorem t_X2_plainCode_76 {X : BX} {D : va_G} {cy : Nat → ClassId} {b : Nat} {r : Option Value} {μ' : MS} (hB : BB X D cy b yX2_plainCode cX2_plainCode 6 (some .int) rmX2_plainCode) {l0 : Nat} {l1 : Nat} {l3 : Int32} {l4 : Int32} {l5 : Int32} {μ : MS} {z : (Int32 × MS)} (hf : f_X2_plainCode_76 l0 l1 l3 l4 l5 μ = some z) (hk : (fun z : Int32 × MS => r = some (.int z.1) ∧ μ' = z.2) z) : WW X D cy b r μ' 6 0 0 76 [(0, .ref (b + l0)), (1, .ref (b + l1)), (3, .int l3), (4, .int l4), (5, .int l5)] [] μ :=
  lp_ind (P := fun s : Nat × Nat × Int32 × Int32 × Int32 × MS => WW X D cy b r μ' 6 0 0 76 [(0, .ref (b + s.1)), (1, .ref (b + s.2.1)), (3, .int s.2.2.1), (4, .int s.2.2.2.1), (5, .int s.2.2.2.2.1)] [] s.2.2.2.2.2) (Q := (fun z : Int32 × MS => r = some (.int z.1) ∧ μ' = z.2)) (fun s z hz hk => t_X2_plainCode_76_b hB hz hk) (l0, l1, l3, l4, l5, μ) z hf hk
set_option maxHeartbeats 4000000 in
set_option maxRecDepth 100000 in
theorem t_X2_plainCode_69 {X : BX} {D : va_G} {cy : Nat → ClassId} {b : Nat} {r : Option Value} {μ' : MS} (hB : BB X D cy b yX2_plainCode cX2_plainCode 6 (some .int) rmX2_plainCode) {l0 : Nat} {l1 : Nat} {s0 : Int32} {μ : MS} {z : (Int32 × MS)} (hf : f_X2_plainCode_69 l0 l1 s0 μ = some z) (hk : (fun z : Int32 × MS => r = some (.int z.1) ∧ μ' = z.2) z) : WW X D cy b r μ' 6 0 0 69 [(0, .ref (b + l0)), (1, .ref (b + l1))] [.int s0] μ := by
  unfold f_X2_plainCode_69 at hf
  refine r_istore_n hB (by decide +kernel : decode cX2_plainCode 69 = .ok (.istore_n 3, 1)) rfl (by decide) rfl ?_
  refine ww_lv (lv' := [(3, .int s0), (0, .ref (b + l0)), (1, .ref (b + l1))]) rfl ?_
  refine r_iconst hB (v := 0) (by decide +kernel : decode cX2_plainCode 70 = .ok (.iconst 0, 1)) (by decide +kernel) ?_
  refine r_istore hB (by decide +kernel : decode cX2_plainCode 71 = .ok (.istore 4, 2)) (by decide) rfl ?_
  refine ww_lv (lv' := [(4, .int 0), (3, .int s0), (0, .ref (b + l0)), (1, .ref (b + l1))]) rfl ?_
  refine r_iconst hB (v := 2) (by decide +kernel : decode cX2_plainCode 73 = .ok (.iconst 2, 1)) (by decide +kernel) ?_
  refine r_istore hB (by decide +kernel : decode cX2_plainCode 74 = .ok (.istore 5, 2)) (by decide) rfl ?_
  refine ww_lv (lv' := [(5, .int 2), (4, .int 0), (3, .int s0), (0, .ref (b + l0)), (1, .ref (b + l1))]) rfl ?_
  exact WW.sub [3, 4, 2, 1, 0] rfl (t_X2_plainCode_76 hB hf hk)
set_option maxHeartbeats 4000000 in
set_option maxRecDepth 100000 in
theorem t_X2_plainCode_13 {X : BX} {D : va_G} {cy : Nat → ClassId} {b : Nat} {r : Option Value} {μ' : MS} (hB : BB X D cy b yX2_plainCode cX2_plainCode 6 (some .int) rmX2_plainCode) {l0 : Nat} {l1 : Nat} {s0 : Int32} {μ : MS} {z : (Int32 × MS)} (hf : f_X2_plainCode_13 l0 l1 s0 μ = some z) (hk : (fun z : Int32 × MS => r = some (.int z.1) ∧ μ' = z.2) z) : WW X D cy b r μ' 6 0 0 13 [(0, .ref (b + l0)), (1, .ref (b + l1))] [.int s0] μ := by
  unfold f_X2_plainCode_13 at hf
  refine r_istore_n hB (by decide +kernel : decode cX2_plainCode 13 = .ok (.istore_n 2, 1)) rfl (by decide) rfl ?_
  refine ww_lv (lv' := [(2, .int s0), (0, .ref (b + l0)), (1, .ref (b + l1))]) rfl ?_
  refine r_aload_n hB 1 rfl (by decide +kernel : decode cX2_plainCode 14 = .ok (.aload_n 0, 1)) rfl ?_
  refine r_gI hB cf2 3 (by decide) (own := "PulseRemote$Decoder") rfl (Or.inl k_301) (by decide +kernel) (by decide +kernel : decode cX2_plainCode 15 = .ok (.getfield 64, 3)) hf (fun x15 hf => ?_)
  refine r_iconst hB (v := 2) (by decide +kernel : decode cX2_plainCode 18 = .ok (.iconst 2, 1)) (by decide +kernel) ?_
  refine r_aload_n hB 2 rfl (by decide +kernel : decode cX2_plainCode 19 = .ok (.aload_n 1, 1)) rfl ?_
  refine r_gI hB cf6 6 (by decide) (own := "PulseRemote$Decoder") rfl (Or.inr ⟨_, k_144⟩) (by decide +kernel) (by decide +kernel : decode cX2_plainCode 20 = .ok (.getfield 91, 3)) hf (fun x20 hf => ?_)
  refine r_imul hB (by decide +kernel : decode cX2_plainCode 23 = .ok (.imul, 1)) ?_
  refine r_iload_n hB 0 rfl (by decide +kernel : decode cX2_plainCode 24 = .ok (.iload_n 2, 1)) rfl ?_
  refine r_iadd hB (by decide +kernel : decode cX2_plainCode 25 = .ok (.iadd, 1)) ?_
  refine r_icmp_ne hB (tgt := 53) (by decide +kernel : decode cX2_plainCode 26 = .ok (.if_icmp .ne 27, 3)) (by decide) hf (fun _ hf => ?_) (fun _ hf => ?_)
  · refine r_aload_n hB 1 rfl (by decide +kernel : decode cX2_plainCode 29 = .ok (.aload_n 0, 1)) rfl ?_
    refine r_iconst hB (v := 0) (by decide +kernel : decode cX2_plainCode 30 = .ok (.iconst 0, 1)) (by decide +kernel) ?_
    refine r_aload_n hB 2 rfl (by decide +kernel : decode cX2_plainCode 31 = .ok (.aload_n 1, 1)) rfl ?_
    refine r_gI hB cf6 1 (by decide) (own := "PulseRemote$Decoder") rfl (Or.inr ⟨_, k_128⟩) (by decide +kernel) (by decide +kernel : decode cX2_plainCode 32 = .ok (.getfield 74, 3)) hf (fun x32 hf => ?_)
    refine r_cVi hB [.int 0, .int x32] [] cf2 (own := "PulseRemote$Decoder") rfl cmX2_fits imX2_fits (Or.inl k_973) (by decide) rfl rfl rfl (Nat.le_of_ble_eq_true rfl) (by decide +kernel : decode cX2_plainCode 35 = .ok (.invokevirtual 77, 3)) (fun z hz => m_X2_fits _ _ _ _ hz) rfl hf (fun z35 hf => ?_)
    refine r_if_eq hB (tgt := 53) (by decide +kernel : decode cX2_plainCode 38 = .ok (.ifCond .eq 15, 3)) (by decide) hf (fun _ hf => ?_) (fun _ hf => ?_)
    · refine r_bipush hB (v := (-9)) (by decide +kernel : decode cX2_plainCode 53 = .ok (.bipush (-9), 2)) (by decide +kernel) ?_
      obtain rfl := Option.some.inj hf
      obtain ⟨rfl, rfl⟩ := hk
      exact r_iret hB (by decide +kernel : decode cX2_plainCode 55 = .ok (.ireturn, 1))
    · refine r_aload_n hB 1 rfl (by decide +kernel : decode cX2_plainCode 41 = .ok (.aload_n 0, 1)) rfl ?_
      refine r_iconst hB (v := 1) (by decide +kernel : decode cX2_plainCode 42 = .ok (.iconst 1, 1)) (by decide +kernel) ?_
      refine r_aload_n hB 2 rfl (by decide +kernel : decode cX2_plainCode 43 = .ok (.aload_n 1, 1)) rfl ?_
      refine r_gI hB cf6 2 (by decide) (own := "PulseRemote$Decoder") rfl (Or.inr ⟨_, k_131⟩) (by decide +kernel) (by decide +kernel : decode cX2_plainCode 44 = .ok (.getfield 81, 3)) hf (fun x44 hf => ?_)
      refine r_cVi hB [.int 1, .int x44] [] cf2 (own := "PulseRemote$Decoder") rfl cmX2_fits imX2_fits (Or.inl k_973) (by decide) rfl rfl rfl (Nat.le_of_ble_eq_true rfl) (by decide +kernel : decode cX2_plainCode 47 = .ok (.invokevirtual 77, 3)) (fun z hz => m_X2_fits _ _ _ _ hz) rfl hf (fun z47 hf => ?_)
      refine r_if_ne hB (tgt := 56) (by decide +kernel : decode cX2_plainCode 50 = .ok (.ifCond .ne 6, 3)) (by decide) hf (fun _ hf => ?_) (fun _ hf => ?_)
      · refine r_bipush hB (v := (-9)) (by decide +kernel : decode cX2_plainCode 53 = .ok (.bipush (-9), 2)) (by decide +kernel) ?_
        obtain rfl := Option.some.inj hf
        obtain ⟨rfl, rfl⟩ := hk
        exact r_iret hB (by decide +kernel : decode cX2_plainCode 55 = .ok (.ireturn, 1))
      · refine r_aload_n hB 2 rfl (by decide +kernel : decode cX2_plainCode 56 = .ok (.aload_n 1, 1)) rfl ?_
        refine r_gI hB cf6 0 (by decide) (own := "PulseRemote$Decoder") rfl (Or.inr ⟨_, k_125⟩) (by decide +kernel) (by decide +kernel : decode cX2_plainCode 57 = .ok (.getfield 42, 3)) hf (fun x57 hf => ?_)
        refine r_iconst hB (v := 1) (by decide +kernel : decode cX2_plainCode 60 = .ok (.iconst 1, 1)) (by decide +kernel) ?_
        refine r_icmp_ne hB (tgt := 68) (by decide +kernel : decode cX2_plainCode 61 = .ok (.if_icmp .ne 7, 3)) (by decide) hf (fun _ hf => ?_) (fun _ hf => ?_)
        · refine r_iconst hB (v := 0) (by decide +kernel : decode cX2_plainCode 64 = .ok (.iconst 0, 1)) (by decide +kernel) ?_
          refine r_goto hB (tgt := 69) (by decide +kernel : decode cX2_plainCode 65 = .ok (.goto 4, 3)) (by decide) ?_
          exact WW.sub [1, 2] rfl (t_X2_plainCode_69 hB hf hk)
        · refine r_iconst hB (v := 1) (by decide +kernel : decode cX2_plainCode 68 = .ok (.iconst 1, 1)) (by decide +kernel) ?_
          exact WW.sub [1, 2] rfl (t_X2_plainCode_69 hB hf hk)
  · refine r_bipush hB (v := (-9)) (by decide +kernel : decode cX2_plainCode 53 = .ok (.bipush (-9), 2)) (by decide +kernel) ?_
    obtain rfl := Option.some.inj hf
    obtain ⟨rfl, rfl⟩ := hk
    exact r_iret hB (by decide +kernel : decode cX2_plainCode 55 = .ok (.ireturn, 1))
set_option maxHeartbeats 4000000 in
set_option maxRecDepth 100000 in
theorem t_X2_plainCode_0 {X : BX} {D : va_G} {cy : Nat → ClassId} {b : Nat} {r : Option Value} {μ' : MS} (hB : BB X D cy b yX2_plainCode cX2_plainCode 6 (some .int) rmX2_plainCode) {l0 : Nat} {l1 : Nat} {μ : MS} {z : (Int32 × MS)} (hf : f_X2_plainCode l0 l1 μ = some z) (hk : (fun z : Int32 × MS => r = some (.int z.1) ∧ μ' = z.2) z) : WW X D cy b r μ' 6 0 0 0 [(0, .ref (b + l0)), (1, .ref (b + l1))] [] μ := by
  unfold f_X2_plainCode at hf
  refine r_aload_n hB 1 rfl (by decide +kernel : decode cX2_plainCode 0 = .ok (.aload_n 1, 1)) rfl ?_
  refine r_gI hB cf6 0 (by decide) (own := "PulseRemote$Decoder") rfl (Or.inr ⟨_, k_125⟩) (by decide +kernel) (by decide +kernel : decode cX2_plainCode 1 = .ok (.getfield 42, 3)) hf (fun x1 hf => ?_)
  refine r_iconst hB (v := 1) (by decide +kernel : decode cX2_plainCode 4 = .ok (.iconst 1, 1)) (by decide +kernel) ?_
  refine r_icmp_ne hB (tgt := 12) (by decide +kernel : decode cX2_plainCode 5 = .ok (.if_icmp .ne 7, 3)) (by decide) hf (fun _ hf => ?_) (fun _ hf => ?_)
  · refine r_iconst hB (v := 1) (by decide +kernel : decode cX2_plainCode 8 = .ok (.iconst 1, 1)) (by decide +kernel) ?_
    refine r_goto hB (tgt := 13) (by decide +kernel : decode cX2_plainCode 9 = .ok (.goto 4, 3)) (by decide) ?_
    exact WW.sub [0, 1] rfl (t_X2_plainCode_13 hB hf hk)
  · refine r_iconst hB (v := 3) (by decide +kernel : decode cX2_plainCode 12 = .ok (.iconst 3, 1)) (by decide +kernel) ?_
    exact WW.sub [0, 1] rfl (t_X2_plainCode_13 hB hf hk)
theorem m_X2_plainCode (l : Launch) (D : va_G) (cy : Nat → ClassId) (b : Nat) {l0 : Nat} {l1 : Nat} {μ : MS} {z : Int32 × MS} (hf : f_X2_plainCode l0 l1 μ = some z) : Met l yX2_plainCode (.code yX2_plainCode cX2_plainCode 6 (some .int) :: GW) rmX2_plainCode (Pw D cy b [.ref (b + l0), .ref (b + l1)] μ) (Qw D cy b (some (.int z.1)) (z.2)) rmX2_plainCode.cells rmX2_plainCode.slots (fun q => b ≤ q) :=
  met_of (by decide) (Nat.le_of_ble_eq_true rfl) (fun X hB _ => (t_X2_plainCode_0 hB hf ⟨rfl, rfl⟩))
-- PulseRemote$Decoder.protocolOfShortFrame(LPulseRemote$Table;)I
set_option maxHeartbeats 4000000 in
set_option maxRecDepth 100000 in
theorem t_X2_protocolOfShortFrame_78 {X : BX} {D : va_G} {cy : Nat → ClassId} {b : Nat} {r : Option Value} {μ' : MS} (hB : BB X D cy b yX2_protocolOfShortFrame cX2_protocolOfShortFrame 4 (some .int) rmX2_protocolOfShortFrame)  {μ : MS} {z : (Int32 × MS)} (hf : f_X2_protocolOfShortFrame_78  μ = some z) (hk : (fun z : Int32 × MS => r = some (.int z.1) ∧ μ' = z.2) z) : WW X D cy b r μ' 4 0 0 78 [] [] μ := by
  unfold f_X2_protocolOfShortFrame_78 at hf
  refine r_bipush hB (v := (-9)) (by decide +kernel : decode cX2_protocolOfShortFrame 78 = .ok (.bipush (-9), 2)) (by decide +kernel) ?_
  obtain rfl := Option.some.inj hf
  obtain ⟨rfl, rfl⟩ := hk
  exact r_iret hB (by decide +kernel : decode cX2_protocolOfShortFrame 80 = .ok (.ireturn, 1))
set_option maxHeartbeats 4000000 in
set_option maxRecDepth 100000 in
theorem t_X2_protocolOfShortFrame_72 {X : BX} {D : va_G} {cy : Nat → ClassId} {b : Nat} {r : Option Value} {μ' : MS} (hB : BB X D cy b yX2_protocolOfShortFrame cX2_protocolOfShortFrame 4 (some .int) rmX2_protocolOfShortFrame) {l0 : Nat} {l1 : Nat} {l2 : Int32} {μ : MS} {z : ((Nat × Nat × Int32 × MS) ⊕ (Int32 × MS))} (hf : f_X2_protocolOfShortFrame_72 l0 l1 l2 μ = some z) (hk : (Sum.elim (fun s : Nat × Nat × Int32 × MS => WW X D cy b r μ' 4 0 0 2 [(0, .ref (b + s.1)), (1, .ref (b + s.2.1)), (2, .int s.2.2.1)] [] s.2.2.2) (fun z : Int32 × MS => r = some (.int z.1) ∧ μ' = z.2)) z) : WW X D cy b r μ' 4 0 0 72 [(0, .ref (b + l0)), (1, .ref (b + l1)), (2, .int l2)] [] μ := by
  unfold f_X2_protocolOfShortFrame_72 at hf
  refine r_iincB hB 2 rfl (by decide +kernel : decode cX2_protocolOfShortFrame 72 = .ok (.iinc 2 1, 3)) (w := 1) (by decide +kernel) (by decide) hf (fun v72 hf => ?_)
  refine ww_lv (lv' := [(2, .int v72), (0, .ref (b + l0)), (1, .ref (b + l1))]) rfl ?_
  refine r_goto hB (tgt := 2) (by decide +kernel : decode cX2_protocolOfShortFrame 75 = .ok (.goto (-73), 3)) (by decide) ?_
  obtain rfl := Option.some.inj hf
  exact WW.sub [1, 2, 0] rfl hk
set_option maxHeartbeats 4000000 in
set_option maxRecDepth 100000 in
theorem t_X2_protocolOfShortFrame_70 {X : BX} {D : va_G} {cy : Nat → ClassId} {b : Nat} {r : Option Value} {μ' : MS} (hB : BB X D cy b yX2_protocolOfShortFrame cX2_protocolOfShortFrame 4 (some .int) rmX2_protocolOfShortFrame) {l2 : Int32} {μ : MS} {z : (Int32 × MS)} (hf : f_X2_protocolOfShortFrame_70 l2 μ = some z) (hk : (fun z : Int32 × MS => r = some (.int z.1) ∧ μ' = z.2) z) : WW X D cy b r μ' 4 0 0 70 [(2, .int l2)] [] μ := by
  unfold f_X2_protocolOfShortFrame_70 at hf
  refine r_iload_n hB 0 rfl (by decide +kernel : decode cX2_protocolOfShortFrame 70 = .ok (.iload_n 2, 1)) rfl ?_
  obtain rfl := Option.some.inj hf
  obtain ⟨rfl, rfl⟩ := hk
  exact r_iret hB (by decide +kernel : decode cX2_protocolOfShortFrame 71 = .ok (.ireturn, 1))
set_option maxHeartbeats 4000000 in
set_option maxRecDepth 100000 in
theorem t_X2_protocolOfShortFrame_2_b {X : BX} {D : va_G} {cy : Nat → ClassId} {b : Nat} {r : Option Value} {μ' : MS} (hB : BB X D cy b yX2_protocolOfShortFrame cX2_protocolOfShortFrame 4 (some .int) rmX2_protocolOfShortFrame) {l0 : Nat} {l1 : Nat} {l2 : Int32} {μ : MS} {z : ((Nat × Nat × Int32 × MS) ⊕ (Int32 × MS))} (hf : f_X2_protocolOfShortFrame_2_b l0 l1 l2 μ = some z) (hk : (Sum.elim (fun s : Nat × Nat × Int32 × MS => WW X D cy b r μ' 4 0 0 2 [(0, .ref (b + s.1)), (1, .ref (b + s.2.1)), (2, .int s.2.2.1)] [] s.2.2.2) (fun z : Int32 × MS => r = some (.int z.1) ∧ μ' = z.2)) z) : WW X D cy b r μ' 4 0 0 2 [(0, .ref (b + l0)), (1, .ref (b + l1)), (2, .int l2)] [] μ := by
  unfold f_X2_protocolOfShortFrame_2_b at hf
  refine r_iload_n hB 2 rfl (by decide +kernel : decode cX2_protocolOfShortFrame 2 = .ok (.iload_n 2, 1)) rfl ?_
  refine r_aload_n hB 1 rfl (by decide +kernel : decode cX2_protocolOfShortFrame 3 = .ok (.aload_n 1, 1)) rfl ?_
  refine r_gI hB cf8 1 (by decide) (own := "PulseRemote$Decoder") rfl (Or.inr ⟨_, k_173⟩) (by decide +kernel) (by decide +kernel : decode cX2_protocolOfShortFrame 4 = .ok (.getfield 33, 3)) hf (fun x4 hf => ?_)
  refine r_icmp_ge hB (tgt := 78) (by decide +kernel : decode cX2_protocolOfShortFrame 7 = .ok (.if_icmp .ge 71, 3)) (by decide) hf (fun _ hf => ?_) (fun _ hf => ?_)
  · obtain ⟨_, hx0, rfl⟩ := xr_inv hf
    exact WW.sub [] rfl (t_X2_protocolOfShortFrame_78 hB hx0 hk)
  · refine r_aload_n hB 1 rfl (by decide +kernel : decode cX2_protocolOfShortFrame 10 = .ok (.aload_n 1, 1)) rfl ?_
    refine r_iload_n hB 2 rfl (by decide +kernel : decode cX2_protocolOfShortFrame 11 = .ok (.iload_n 2, 1)) rfl ?_
    refine r_cVr hB [.int l2] [] cf8 (own := "PulseRemote$Decoder") rfl cmX8_protocolAt imX8_protocolAt (Or.inl k_968) (by decide) rfl rfl rfl (Nat.le_of_ble_eq_true rfl) (by decide +kernel : decode cX2_protocolOfShortFrame 12 = .ok (.invokevirtual 38, 3)) (fun z hz => m_X8_protocolAt _ _ _ _ hz) rfl hf (fun z12 hf => ?_)
    refine r_astore_n hB (by decide +kernel : decode cX2_protocolOfShortFrame 15 = .ok (.astore_n 3, 1)) rfl (by decide) rfl ?_
    refine ww_lv (lv' := [(3, .ref (b + z12.1)), (0, .ref (b + l0)), (1, .ref (b + l1)), (2, .int l2)]) rfl ?_
    refine r_aload_n hB 0 rfl (by decide +kernel : decode cX2_protocolOfShortFrame 16 = .ok (.aload_n 3, 1)) rfl ?_
    refine r_gI hB cf6 8 (by decide) (own := "PulseRemote$Decoder") rfl (Or.inr ⟨_, k_150⟩) (by decide +kernel) (by decide +kernel : decode cX2_protocolOfShortFrame 17 = .ok (.getfield 71, 3)) hf (fun x17 hf => ?_)
    refine r_iconst hB (v := 1) (by decide +kernel : decode cX2_protocolOfShortFrame 20 = .ok (.iconst 1, 1)) (by decide +kernel) ?_
    refine r_icmp_ne hB (tgt := 72) (by decide +kernel : decode cX2_protocolOfShortFrame 21 = .ok (.if_icmp .ne 51, 3)) (by decide) hf (fun _ hf => ?_) (fun _ hf => ?_)
    · refine r_aload_n hB 1 rfl (by decide +kernel : decode cX2_protocolOfShortFrame 24 = .ok (.aload_n 0, 1)) rfl ?_
      refine r_gI hB cf2 3 (by decide) (own := "PulseRemote$Decoder") rfl (Or.inl k_301) (by decide +kernel) (by decide +kernel : decode cX2_protocolOfShortFrame 25 = .ok (.getfield 64, 3)) hf (fun x25 hf => ?_)
      refine r_iconst hB (v := 3) (by decide +kernel : decode cX2_protocolOfShortFrame 28 = .ok (.iconst 3, 1)) (by decide +kernel) ?_
      refine r_icmp_ne hB (tgt := 72) (by decide +kernel : decode cX2_protocolOfShortFrame 29 = .ok (.if_icmp .ne 43, 3)) (by decide) hf (fun _ hf => ?_) (fun _ hf => ?_)
      · refine r_aload_n hB 1 rfl (by decide +kernel : decode cX2_protocolOfShortFrame 32 = .ok (.aload_n 0, 1)) rfl ?_
        refine r_iconst hB (v := 0) (by decide +kernel : decode cX2_protocolOfShortFrame 33 = .ok (.iconst 0, 1)) (by decide +kernel) ?_
        refine r_aload_n hB 0 rfl (by decide +kernel : decode cX2_protocolOfShortFrame 34 = .ok (.aload_n 3, 1)) rfl ?_
        refine r_gI hB cf6 1 (by decide) (own := "PulseRemote$Decoder") rfl (Or.inr ⟨_, k_128⟩) (by decide +kernel) (by decide +kernel : decode cX2_protocolOfShortFrame 35 = .ok (.getfield 74, 3)) hf (fun x35 hf => ?_)
        refine r_cVi hB [.int 0, .int x35] [] cf2 (own := "PulseRemote$Decoder") rfl cmX2_fits imX2_fits (Or.inl k_973) (by decide) rfl rfl rfl (Nat.le_of_ble_eq_true rfl) (by decide +kernel : decode cX2_protocolOfShortFrame 38 = .ok (.invokevirtual 77, 3)) (fun z hz => m_X2_fits _ _ _ _ hz) rfl hf (fun z38 hf => ?_)
        refine r_if_eq hB (tgt := 72) (by decide +kernel : decode cX2_protocolOfShortFrame 41 = .ok (.ifCond .eq 31, 3)) (by decide) hf (fun _ hf => ?_) (fun _ hf => ?_)
        · exact WW.sub [1, 2, 3] rfl (t_X2_protocolOfShortFrame_72 hB hf hk)
        · refine r_aload_n hB 1 rfl (by decide +kernel : decode cX2_protocolOfShortFrame 44 = .ok (.aload_n 0, 1)) rfl ?_
          refine r_iconst hB (v := 1) (by decide +kernel : decode cX2_protocolOfShortFrame 45 = .ok (.iconst 1, 1)) (by decide +kernel) ?_
          refine r_aload_n hB 0 rfl (by decide +kernel : decode cX2_protocolOfShortFrame 46 = .ok (.aload_n 3, 1)) rfl ?_
          refine r_gI hB cf6 2 (by decide) (own := "PulseRemote$Decoder") rfl (Or.inr ⟨_, k_131⟩) (by decide +kernel) (by decide +kernel : decode cX2_protocolOfShortFrame 47 = .ok (.getfield 81, 3)) hf (fun x47 hf => ?_)
          refine r_iconst hB (v := 2) (by decide +kernel : decode cX2_protocolOfShortFrame 50 = .ok (.iconst 2, 1)) (by decide +kernel) ?_
          refine r_idiv hB (by decide +kernel : decode cX2_protocolOfShortFrame 51 = .ok (.idiv, 1)) hf (fun v51 hf => ?_)
          refine r_cVi hB [.int 1, .int v51] [] cf2 (own := "PulseRemote$Decoder") rfl cmX2_fits imX2_fits (Or.inl k_973) (by decide) rfl rfl rfl (Nat.le_of_ble_eq_true rfl) (by decide +kernel : decode cX2_protocolOfShortFrame 52 = .ok (.invokevirtual 77, 3)) (fun z hz => m_X2_fits _ _ _ _ hz) rfl hf (fun z52 hf => ?_)
          refine r_if_eq hB (tgt := 72) (by decide +kernel : decode cX2_protocolOfShortFrame 55 = .ok (.ifCond .eq 17, 3)) (by decide) hf (fun _ hf => ?_) (fun _ hf => ?_)
          · exact WW.sub [1, 2, 3] rfl (t_X2_protocolOfShortFrame_72 hB hf hk)
          · refine r_aload_n hB 1 rfl (by decide +kernel : decode cX2_protocolOfShortFrame 58 = .ok (.aload_n 0, 1)) rfl ?_
            refine r_iconst hB (v := 2) (by decide +kernel : decode cX2_protocolOfShortFrame 59 = .ok (.iconst 2, 1)) (by decide +kernel) ?_
            refine r_aload_n hB 0 rfl (by decide +kernel : decode cX2_protocolOfShortFrame 60 = .ok (.aload_n 3, 1)) rfl ?_
            refine r_gI hB cf6 3 (by decide) (own := "PulseRemote$Decoder") rfl (Or.inr ⟨_, k_134⟩) (by decide +kernel) (by decide +kernel : decode cX2_protocolOfShortFrame 61 = .ok (.getfield 84, 3)) hf (fun x61 hf => ?_)
            refine r_cVi hB [.int 2, .int x61] [] cf2 (own := "PulseRemote$Decoder") rfl cmX2_fits imX2_fits (Or.inl k_973) (by decide) rfl rfl rfl (Nat.le_of_ble_eq_true rfl) (by decide +kernel : decode cX2_protocolOfShortFrame 64 = .ok (.invokevirtual 77, 3)) (fun z hz => m_X2_fits _ _ _ _ hz) rfl hf (fun z64 hf => ?_)
            refine r_if_eq hB (tgt := 72) (by decide +kernel : decode cX2_protocolOfShortFrame 67 = .ok (.ifCond .eq 5, 3)) (by decide) hf (fun _ hf => ?_) (fun _ hf => ?_)
            · exact WW.sub [1, 2, 3] rfl (t_X2_protocolOfShortFrame_72 hB hf hk)
            · obtain ⟨_, hx0, rfl⟩ := xr_inv hf
              exact WW.sub [3] rfl (t_X2_protocolOfShortFrame_70 hB hx0 hk)
      · exact WW.sub [1, 2, 3] rfl (t_X2_protocolOfShortFrame_72 hB hf hk)
    · exact WW.sub [1, 2, 3] rfl (t_X2_protocolOfShortFrame_72 hB hf hk)
set_option maxHeartbeats 4000000 in
set_option maxRecDepth 100000 in
theorem t_X2_protocolOfShortFrame_2 {X : BX} {D : va_G} {cy : Nat → ClassId} {b : Nat} {r : Option Value} {μ' : MS} (hB : BB X D cy b yX2_protocolOfShortFrame cX2_protocolOfShortFrame 4 (some .int) rmX2_protocolOfShortFrame) {l0 : Nat} {l1 : Nat} {l2 : Int32} {μ : MS} {z : (Int32 × MS)} (hf : f_X2_protocolOfShortFrame_2 l0 l1 l2 μ = some z) (hk : (fun z : Int32 × MS => r = some (.int z.1) ∧ μ' = z.2) z) : WW X D cy b r μ' 4 0 0 2 [(0, .ref (b + l0)), (1, .ref (b + l1)), (2, .int l2)] [] μ :=
  lp_ind (P := fun s : Nat × Nat × Int32 × MS => WW X D cy b r μ' 4 0 0 2 [(0, .ref (b + s.1)), (1, .ref (b + s.2.1)), (2, .int s.2.2.1)] [] s.2.2.2) (Q := (fun z : Int32 × MS => r = some (.int z.1) ∧ μ' = z.2)) (fun s z hz hk => t_X2_protocolOfShortFrame_2_b hB hz hk) (l0, l1, l2, μ) z hf hk
set_option maxHeartbeats 4000000 in
set_option maxRecDepth 100000 in
theorem t_X2_protocolOfShortFrame_0 {X : BX} {D : va_G} {cy : Nat → ClassId} {b : Nat} {r : Option Value} {μ' : MS} (hB : BB X D cy b yX2_protocolOfShortFrame cX2_protocolOfShortFrame 4 (some .int) rmX2_protocolOfShortFrame) {l0 : Nat} {l1 : Nat} {μ : MS} {z : (Int32 × MS)} (hf : f_X2_protocolOfShortFrame l0 l1 μ = some z) (hk : (fun z : Int32 × MS => r = some (.int z.1) ∧ μ' = z.2) z) : WW X D cy b r μ' 4 0 0 0 [(0, .ref (b + l0)), (1, .ref (b + l1))] [] μ := by
  unfold f_X2_protocolOfShortFrame at hf
  refine r_iconst hB (v := 0) (by decide +kernel : decode cX2_protocolOfShortFrame 0 = .ok (.iconst 0, 1)) (by decide +kernel) ?_
  refine r_istore_n hB (by decide +kernel : decode cX2_protocolOfShortFrame 1 = .ok (.istore_n 2, 1)) rfl (by decide) rfl ?_
  refine ww_lv (lv' := [(2, .int 0), (0, .ref (b + l0)), (1, .ref (b + l1))]) rfl ?_
  exact WW.sub [1, 2, 0] rfl (t_X2_protocolOfShortFrame_2 hB hf hk)
theorem m_X2_protocolOfShortFrame (l : Launch) (D : va_G) (cy : Nat → ClassId) (b : Nat) {l0 : Nat} {l1 : Nat} {μ : MS} {z : Int32 × MS} (hf : f_X2_protocolOfShortFrame l0 l1 μ = some z) : Met l yX2_protocolOfShortFrame (.code yX2_protocolOfShortFrame cX2_protocolOfShortFrame 4 (some .int) :: GW) rmX2_protocolOfShortFrame (Pw D cy b [.ref (b + l0), .ref (b + l1)] μ) (Qw D cy b (some (.int z.1)) (z.2)) rmX2_protocolOfShortFrame.cells rmX2_protocolOfShortFrame.slots (fun q => b ≤ q) :=
  met_of (by decide) (Nat.le_of_ble_eq_true rfl) (fun X hB _ => (t_X2_protocolOfShortFrame_0 hB hf ⟨rfl, rfl⟩))
-- PulseRemote$Decoder.decode(LPulseRemote$Table;LPulseRemote$FrameList;II)V
set_option maxHeartbeats 4000000 in
set_option maxRecDepth 100000 in
theorem t_X2_decode_98 {X : BX} {D : va_G} {cy : Nat → ClassId} {b : Nat} {r : Option Value} {μ' : MS} (hB : BB X D cy b yX2_decode cX2_decode 7 none rmX2_decode) {l0 : Nat} {l1 : Nat} {μ : MS} {z : MS} (hf : f_X2_decode_98 l0 l1 μ = some z) (hk : (fun z : MS => r = none ∧ μ' = z) z) : WW X D cy b r μ' 7 0 0 98 [(0, .ref (b + l0)), (1, .ref (b + l1))] [] μ := by
  unfold f_X2_decode_98 at hf
  refine r_aload_n hB 0 rfl (by decide +kernel : decode cX2_decode 98 = .ok (.aload_n 0, 1)) rfl ?_
  refine r_aload_n hB 0 rfl (by decide +kernel : decode cX2_decode 99 = .ok (.aload_n 0, 1)) rfl ?_
  refine r_aload_n hB 1 rfl (by decide +kernel : decode cX2_decode 100 = .ok (.aload_n 1, 1)) rfl ?_
  refine r_cVi hB [.ref (b + l1)] [.ref (b + l0)] cf2 (own := "PulseRemote$Decoder") rfl cmX2_protocolOfShortFrame imX2_protocolOfShortFrame (Or.inl k_997) (by decide) rfl rfl rfl (Nat.le_of_ble_eq_true rfl) (by decide +kernel : decode cX2_decode 101 = .ok (.invokevirtual 54, 3)) (fun z hz => m_X2_protocolOfShortFrame _ _ _ _ hz) rfl hf (fun z101 hf => ?_)
  refine r_pI hB cf2 0 (by decide) (own := "PulseRemote$Decoder") rfl (Or.inl k_294) (Or.inl rfl) rfl (by decide +kernel : decode cX2_decode 104 = .ok (.putfield 9, 3)) hf (fun m104 hf => ?_)
  obtain rfl := Option.some.inj hf
  obtain ⟨rfl, rfl⟩ := hk
  exact r_vret hB (by decide +kernel : decode cX2_decode 107 = .ok (.return_, 1))
set_option maxHeartbeats 4000000 in
set_option maxRecDepth 100000 in
theorem t_X2_decode_85 {X : BX} {D : va_G} {cy : Nat → ClassId} {b : Nat} {r : Option Value} {μ' : MS} (hB : BB X D cy b yX2_decode cX2_decode 7 none rmX2_decode) {l0 : Nat} {l5 : Int32} {μ : MS} {z : MS} (hf : f_X2_decode_85 l0 l5 μ = some z) (hk : (fun z : MS => r = none ∧ μ' = z) z) : WW X D cy b r μ' 7 0 0 85 [(0, .ref (b + l0)), (5, .int l5)] [] μ := by
  unfold f_X2_decode_85 at hf
  refine r_aload_n hB 0 rfl (by decide +kernel : decode cX2_decode 85 = .ok (.aload_n 0, 1)) rfl ?_
  refine r_iload hB 1 rfl (by decide +kernel : decode cX2_decode 86 = .ok (.iload 5, 2)) ?_
  refine r_pI hB cf2 0 (by decide) (own := "PulseRemote$Decoder") rfl (Or.inl k_294) (Or.inl rfl) rfl (by decide +kernel : decode cX2_decode 88 = .ok (.putfield 9, 3)) hf (fun m88 hf => ?_)
  obtain rfl := Option.some.inj hf
  obtain ⟨rfl, rfl⟩ := hk
  exact r_vret hB (by decide +kernel : decode cX2_decode 91 = .ok (.return_, 1))
set_option maxHeartbeats 4000000 in
set_option maxRecDepth 100000 in
theorem t_X2_decode_73 {X : BX} {D : va_G} {cy : Nat → ClassId} {b : Nat} {r : Option Value} {μ' : MS} (hB : BB X D cy b yX2_decode cX2_decode 7 none rmX2_decode) {l0 : Nat} {l1 : Nat} {l5 : Int32} {s0 : Int32} {s1 : Nat} {μ : MS} {z : ((Nat × Nat × Int32 × MS) ⊕ MS)} (hf : f_X2_decode_73 l0 l1 l5 s0 s1 μ = some z) (hk : (Sum.elim (fun s : Nat × Nat × Int32 × MS => WW X D cy b r μ' 7 0 0 31 [(0, .ref (b + s.1)), (1, .ref (b + s.2.1)), (5, .int s.2.2.1)] [] s.2.2.2) (fun z : MS => r = none ∧ μ' = z)) z) : WW X D cy b r μ' 7 0 0 73 [(0, .ref (b + l0)), (1, .ref (b + l1)), (5, .int l5)] [.int s0, .ref (b + s1)] μ := by
  unfold f_X2_decode_73 at hf
  refine r_pI hB cf2 1 (by decide) (own := "PulseRemote$Decoder") rfl (Or.inl k_297) (Or.inl rfl) rfl (by decide +kernel : decode cX2_decode 73 = .ok (.putfield 15, 3)) hf (fun m73 hf => ?_)
  refine r_aload_n hB 0 rfl (by decide +kernel : decode cX2_decode 76 = .ok (.aload_n 0, 1)) rfl ?_
  refine r_gI hB cf2 1 (by decide) (own := "PulseRemote$Decoder") rfl (Or.inl k_297) (by decide +kernel) (by decide +kernel : decode cX2_decode 77 = .ok (.getfield 15, 3)) hf (fun x77 hf => ?_)
  refine r_bipush hB (v := (-9)) (by decide +kernel : decode cX2_decode 80 = .ok (.bipush (-9), 2)) (by decide +kernel) ?_
  refine r_icmp_eq hB (tgt := 92) (by decide +kernel : decode cX2_decode 82 = .ok (.if_icmp .eq 10, 3)) (by decide) hf (fun _ hf => ?_) (fun _ hf => ?_)
  · refine r_iincB hB 2 rfl (by decide +kernel : decode cX2_decode 92 = .ok (.iinc 5 1, 3)) (w := 1) (by decide +kernel) (by decide) hf (fun v92 hf => ?_)
    refine ww_lv (lv' := [(5, .int v92), (0, .ref (b + l0)), (1, .ref (b + l1))]) rfl ?_
    refine r_goto hB (tgt := 31) (by decide +kernel : decode cX2_decode 95 = .ok (.goto (-64), 3)) (by decide) ?_
    obtain rfl := Option.some.inj hf
    exact WW.sub [1, 2, 0] rfl hk
  · obtain ⟨_, hx0, rfl⟩ := xr_inv hf
    exact WW.sub [0, 2] rfl (t_X2_decode_85 hB hx0 hk)
set_option maxHeartbeats 4000000 in
set_option maxRecDepth 100000 in
theorem t_X2_decode_31_b {X : BX} {D : va_G} {cy : Nat → ClassId} {b : Nat} {r : Option Value} {μ' : MS} (hB : BB X D cy b yX2_decode cX2_decode 7 none rmX2_decode) {l0 : Nat} {l1 : Nat} {l5 : Int32} {μ : MS} {z : ((Nat × Nat × Int32 × MS) ⊕ MS)} (hf : f_X2_decode_31_b l0 l1 l5 μ = some z) (hk : (Sum.elim (fun s : Nat × Nat × Int32 × MS => WW X D cy b r μ' 7 0 0 31 [(0, .ref (b + s.1)), (1, .ref (b + s.2.1)), (5, .int s.2.2.1)] [] s.2.2.2) (fun z : MS => r = none ∧ μ' = z)) z) : WW X D cy b r μ' 7 0 0 31 [(0, .ref (b + l0)), (1, .ref (b + l1)), (5, .int l5)] [] μ := by
  unfold f_X2_decode_31_b at hf
  refine r_iload hB 2 rfl (by decide +kernel : decode cX2_decode 31 = .ok (.iload 5, 2)) ?_
  refine r_aload_n hB 1 rfl (by decide +kernel : decode cX2_decode 33 = .ok (.aload_n 1, 1)) rfl ?_
  refine r_gI hB cf8 1 (by decide) (own := "PulseRemote$Decoder") rfl (Or.inr ⟨_, k_173⟩) (by decide +kernel) (by decide +kernel : decode cX2_decode 34 = .ok (.getfield 33, 3)) hf (fun x34 hf => ?_)
  refine r_icmp_ge hB (tgt := 98) (by decide +kernel : decode cX2_decode 37 = .ok (.if_icmp .ge 61, 3)) (by decide) hf (fun _ hf => ?_) (fun _ hf => ?_)
  · obtain ⟨_, hx0, rfl⟩ := xr_inv hf
    exact WW.sub [0, 1] rfl (t_X2_decode_98 hB hx0 hk)
  · refine r_aload_n hB 1 rfl (by decide +kernel : decode cX2_decode 40 = .ok (.aload_n 1, 1)) rfl ?_
    refine r_iload hB 2 rfl (by decide +kernel : decode cX2_decode 41 = .ok (.iload 5, 2)) ?_
    refine r_cVr hB [.int l5] [] cf8 (own := "PulseRemote$Decoder") rfl cmX8_protocolAt imX8_protocolAt (Or.inl k_968) (by decide) rfl rfl rfl (Nat.le_of_ble_eq_true rfl) (by decide +kernel : decode cX2_decode 43 = .ok (.invokevirtual 38, 3)) (fun z hz => m_X8_protocolAt _ _ _ _ hz) rfl hf (fun z43 hf => ?_)
    refine r_astore hB (by decide +kernel : decode cX2_decode 46 = .ok (.astore 6, 2)) (by decide) rfl ?_
    refine ww_lv (lv' := [(6, .ref (b + z43.1)), (0, .ref (b + l0)), (1, .ref (b + l1)), (5, .int l5)]) rfl ?_
    refine r_aload_n hB 1 rfl (by decide +kernel : decode cX2_decode 48 = .ok (.aload_n 0, 1)) rfl ?_
    refine r_aload hB 0 rfl (by decide +kernel : decode cX2_decode 49 = .ok (.aload 6, 2)) ?_
    refine r_gI hB cf6 0 (by decide) (own := "PulseRemote$Decoder") rfl (Or.inr ⟨_, k_125⟩) (by decide +kernel) (by decide +kernel : decode cX2_decode 51 = .ok (.getfield 42, 3)) hf (fun x51 hf => ?_)
    refine r_iconst hB (v := 2) (by decide +kernel : decode cX2_decode 54 = .ok (.iconst 2, 1)) (by decide +kernel) ?_
    refine r_icmp_ne hB (tgt := 67) (by decide +kernel : decode cX2_decode 55 = .ok (.if_icmp .ne 12, 3)) (by decide) hf (fun _ hf => ?_) (fun _ hf => ?_)
    · refine r_aload_n hB 1 rfl (by decide +kernel : decode cX2_decode 58 = .ok (.aload_n 0, 1)) rfl ?_
      refine r_aload hB 0 rfl (by decide +kernel : decode cX2_decode 59 = .ok (.aload 6, 2)) ?_
      refine r_cVi hB [.ref (b + z43.1)] [.ref (b + l0)] cf2 (own := "PulseRemote$Decoder") rfl cmX2_phaseCode imX2_phaseCode (Or.inl k_969) (by decide) rfl rfl rfl (Nat.le_of_ble_eq_true rfl) (by decide +kernel : decode cX2_decode 61 = .ok (.invokevirtual 47, 3)) (fun z hz => m_X2_phaseCode _ _ _ _ hz) rfl hf (fun z61 hf => ?_)
      refine r_goto hB (tgt := 73) (by decide +kernel : decode cX2_decode 64 = .ok (.goto 9, 3)) (by decide) ?_
      exact WW.sub [1, 2, 3] rfl (t_X2_decode_73 hB hf hk)
    · refine r_aload_n hB 1 rfl (by decide +kernel : decode cX2_decode 67 = .ok (.aload_n 0, 1)) rfl ?_
      refine r_aload hB 0 rfl (by decide +kernel : decode cX2_decode 68 = .ok (.aload 6, 2)) ?_
      refine r_cVi hB [.ref (b + z43.1)] [.ref (b + l0)] cf2 (own := "PulseRemote$Decoder") rfl cmX2_plainCode imX2_plainCode (Or.inl k_993) (by decide) rfl rfl rfl (Nat.le_of_ble_eq_true rfl) (by decide +kernel : decode cX2_decode 70 = .ok (.invokevirtual 51, 3)) (fun z hz => m_X2_plainCode _ _ _ _ hz) rfl hf (fun z70 hf => ?_)
      exact WW.sub [1, 2, 3] rfl (t_X2_decode_73 hB hf hk)
set_option maxHeartbeats 4000000 in
set_option maxRecDepth 100000 in
theorem t_X2_decode_31 {X : BX} {D : va_G} {cy : Nat → ClassId} {b : Nat} {r : Option Value} {μ' : MS} (hB : BB X D cy b yX2_decode cX2_decode 7 none rmX2_decode) {l0 : Nat} {l1 : Nat} {l5 : Int32} {μ : MS} {z : MS} (hf : f_X2_decode_31 l0 l1 l5 μ = some z) (hk : (fun z : MS => r = none ∧ μ' = z) z) : WW X D cy b r μ' 7 0 0 31 [(0, .ref (b + l0)), (1, .ref (b + l1)), (5, .int l5)] [] μ :=
  lp_ind (P := fun s : Nat × Nat × Int32 × MS => WW X D cy b r μ' 7 0 0 31 [(0, .ref (b + s.1)), (1, .ref (b + s.2.1)), (5, .int s.2.2.1)] [] s.2.2.2) (Q := (fun z : MS => r = none ∧ μ' = z)) (fun s z hz hk => t_X2_decode_31_b hB hz hk) (l0, l1, l5, μ) z hf hk
set_option maxHeartbeats 4000000 in
set_option maxRecDepth 100000 in
theorem t_X2_decode_0 {X : BX} {D : va_G} {cy : Nat → ClassId} {b : Nat} {r : Option Value} {μ' : MS} (hB : BB X D cy b yX2_decode cX2_decode 7 none rmX2_decode) {l0 : Nat} {l1 : Nat} {l2 : Nat} {l3 : Int32} {l4 : Int32} {μ : MS} {z : MS} (hf : f_X2_decode l0 l1 l2 l3 l4 μ = some z) (hk : (fun z : MS => r = none ∧ μ' = z) z) : WW X D cy b r μ' 7 0 0 0 [(0, .ref (b + l0)), (1, .ref (b + l1)), (2, .ref (b + l2)), (3, .int l3), (4, .int l4)] [] μ := by
  unfold f_X2_decode at hf
  refine r_aload_n hB 0 rfl (by decide +kernel : decode cX2_decode 0 = .ok (.aload_n 0, 1)) rfl ?_
  refine r_iload hB 4 rfl (by decide +kernel : decode cX2_decode 1 = .ok (.iload 4, 2)) ?_
  refine r_pI hB cf2 4 (by decide) (own := "PulseRemote$Decoder") rfl (Or.inl k_302) (Or.inl rfl) rfl (by decide +kernel : decode cX2_decode 3 = .ok (.putfield 26, 3)) hf (fun m3 hf => ?_)
  refine r_aload_n hB 0 rfl (by decide +kernel : decode cX2_decode 6 = .ok (.aload_n 0, 1)) rfl ?_
  refine r_bipush hB (v := (-9)) (by decide +kernel : decode cX2_decode 7 = .ok (.bipush (-9), 2)) (by decide +kernel) ?_
  refine r_pI hB cf2 0 (by decide) (own := "PulseRemote$Decoder") rfl (Or.inl k_294) (Or.inl rfl) rfl (by decide +kernel : decode cX2_decode 9 = .ok (.putfield 9, 3)) hf (fun m9 hf => ?_)
  refine r_aload_n hB 0 rfl (by decide +kernel : decode cX2_decode 12 = .ok (.aload_n 0, 1)) rfl ?_
  refine r_bipush hB (v := (-9)) (by decide +kernel : decode cX2_decode 13 = .ok (.bipush (-9), 2)) (by decide +kernel) ?_
  refine r_pI hB cf2 1 (by decide) (own := "PulseRemote$Decoder") rfl (Or.inl k_297) (Or.inl rfl) rfl (by decide +kernel : decode cX2_decode 15 = .ok (.putfield 15, 3)) hf (fun m15 hf => ?_)
  refine r_aload_n hB 0 rfl (by decide +kernel : decode cX2_decode 18 = .ok (.aload_n 0, 1)) rfl ?_
  refine r_aload_n hB 2 rfl (by decide +kernel : decode cX2_decode 19 = .ok (.aload_n 2, 1)) rfl ?_
  refine r_iload_n hB 3 rfl (by decide +kernel : decode cX2_decode 20 = .ok (.iload_n 3, 1)) rfl ?_
  refine r_cVi hB [.ref (b + l2), .int l3] [] cf2 (own := "PulseRemote$Decoder") rfl cmX2_take imX2_take (Or.inl k_962) (by decide) rfl rfl rfl (Nat.le_of_ble_eq_true rfl) (by decide +kernel : decode cX2_decode 21 = .ok (.invokevirtual 29, 3)) (fun z hz => m_X2_take _ _ _ _ hz) rfl hf (fun z21 hf => ?_)
  refine r_if_ne hB (tgt := 28) (by decide +kernel : decode cX2_decode 24 = .ok (.ifCond .ne 4, 3)) (by decide) hf (fun _ hf => ?_) (fun _ hf => ?_)
  · obtain rfl := Option.some.inj hf
    obtain ⟨rfl, rfl⟩ := hk
    exact r_vret hB (by decide +kernel : decode cX2_decode 27 = .ok (.return_, 1))
  · refine r_iconst hB (v := 0) (by decide +kernel : decode cX2_decode 28 = .ok (.iconst 0, 1)) (by decide +kernel) ?_
    refine r_istore hB (by decide +kernel : decode cX2_decode 29 = .ok (.istore 5, 2)) (by decide) rfl ?_
    refine ww_lv (lv' := [(5, .int 0), (0, .ref (b + l0)), (1, .ref (b + l1)), (2, .ref (b + l2)), (3, .int l3), (4, .int l4)]) rfl ?_
    exact WW.sub [1, 2, 0] rfl (t_X2_decode_31 hB hf hk)
theorem m_X2_decode (l : Launch) (D : va_G) (cy : Nat → ClassId) (b : Nat) {l0 : Nat} {l1 : Nat} {l2 : Nat} {l3 : Int32} {l4 : Int32} {μ : MS} {z : MS} (hf : f_X2_decode l0 l1 l2 l3 l4 μ = some z) : Met l yX2_decode (.code yX2_decode cX2_decode 7 none :: GW) rmX2_decode (Pw D cy b [.ref (b + l0), .ref (b + l1), .ref (b + l2), .int l3, .int l4] μ) (Qw D cy b (none) (z)) rmX2_decode.cells rmX2_decode.slots (fun q => b ≤ q) :=
  met_of (by decide) (Nat.le_of_ble_eq_true rfl) (fun X hB _ => (t_X2_decode_0 hB hf ⟨rfl, rfl⟩))
-- PulseRemote$Decoder.isDecoded()Z
set_option maxHeartbeats 4000000 in
set_option maxRecDepth 100000 in
theorem t_X2_isDecoded_0 {X : BX} {D : va_G} {cy : Nat → ClassId} {b : Nat} {r : Option Value} {μ' : MS} (hB : BB X D cy b yX2_isDecoded cX2_isDecoded 1 (some .boolean) rmX2_isDecoded) {l0 : Nat} {μ : MS} {z : (Int32 × MS)} (hf : f_X2_isDecoded l0 μ = some z) (hk : (fun z : Int32 × MS => r = some (.int z.1) ∧ μ' = z.2) z) : WW X D cy b r μ' 1 0 0 0 [(0, .ref (b + l0))] [] μ := by
  unfold f_X2_isDecoded at hf
  refine r_aload_n hB 0 rfl (by decide +kernel : decode cX2_isDecoded 0 = .ok (.aload_n 0, 1)) rfl ?_
  refine r_gI hB cf2 0 (by decide) (own := "PulseRemote$Decoder") rfl (Or.inl k_294) (by decide +kernel) (by decide +kernel : decode cX2_isDecoded 1 = .ok (.getfield 9, 3)) hf (fun x1 hf => ?_)
  refine r_bipush hB (v := (-9)) (by decide +kernel : decode cX2_isDecoded 4 = .ok (.bipush (-9), 2)) (by decide +kernel) ?_
  refine r_icmp_eq hB (tgt := 13) (by decide +kernel : decode cX2_isDecoded 6 = .ok (.if_icmp .eq 7, 3)) (by decide) hf (fun _ hf => ?_) (fun _ hf => ?_)
  · refine r_iconst hB (v := 0) (by decide +kernel : decode cX2_isDecoded 13 = .ok (.iconst 0, 1)) (by decide +kernel) ?_
    obtain rfl := Option.some.inj hf
    obtain ⟨rfl, rfl⟩ := hk
    exact r_zret hB (Or.inl rfl) (by decide +kernel : decode cX2_isDecoded 14 = .ok (.ireturn, 1))
  · refine r_iconst hB (v := 1) (by decide +kernel : decode cX2_isDecoded 9 = .ok (.iconst 1, 1)) (by decide +kernel) ?_
    refine r_goto hB (tgt := 14) (by decide +kernel : decode cX2_isDecoded 10 = .ok (.goto 4, 3)) (by decide) ?_
    obtain rfl := Option.some.inj hf
    obtain ⟨rfl, rfl⟩ := hk
    exact r_zret hB (Or.inr rfl) (by decide +kernel : decode cX2_isDecoded 14 = .ok (.ireturn, 1))
theorem m_X2_isDecoded (l : Launch) (D : va_G) (cy : Nat → ClassId) (b : Nat) {l0 : Nat} {μ : MS} {z : Int32 × MS} (hf : f_X2_isDecoded l0 μ = some z) : Met l yX2_isDecoded (.code yX2_isDecoded cX2_isDecoded 1 (some .boolean) :: GW) rmX2_isDecoded (Pw D cy b [.ref (b + l0)] μ) (Qw D cy b (some (.int z.1)) (z.2)) rmX2_isDecoded.cells rmX2_isDecoded.slots (fun q => b ≤ q) :=
  met_of (by decide) (Nat.le_of_ble_eq_true rfl) (fun X hB _ => (t_X2_isDecoded_0 hB hf ⟨rfl, rfl⟩))
-- PulseRemote$Decoder.isCode()Z
set_option maxHeartbeats 4000000 in
set_option maxRecDepth 100000 in
theorem t_X2_isCode_0 {X : BX} {D : va_G} {cy : Nat → ClassId} {b : Nat} {r : Option Value} {μ' : MS} (hB : BB X D cy b yX2_isCode cX2_isCode 1 (some .boolean) rmX2_isCode) {l0 : Nat} {μ : MS} {z : (Int32 × MS)} (hf : f_X2_isCode l0 μ = some z) (hk : (fun z : Int32 × MS => r = some (.int z.1) ∧ μ' = z.2) z) : WW X D cy b r μ' 1 0 0 0 [(0, .ref (b + l0))] [] μ := by
  unfold f_X2_isCode at hf
  refine r_aload_n hB 0 rfl (by decide +kernel : decode cX2_isCode 0 = .ok (.aload_n 0, 1)) rfl ?_
  refine r_gI hB cf2 1 (by decide) (own := "PulseRemote$Decoder") rfl (Or.inl k_297) (by decide +kernel) (by decide +kernel : decode cX2_isCode 1 = .ok (.getfield 15, 3)) hf (fun x1 hf => ?_)
  refine r_bipush hB (v := (-9)) (by decide +kernel : decode cX2_isCode 4 = .ok (.bipush (-9), 2)) (by decide +kernel) ?_
  refine r_icmp_eq hB (tgt := 13) (by decide +kernel : decode cX2_isCode 6 = .ok (.if_icmp .eq 7, 3)) (by decide) hf (fun _ hf => ?_) (fun _ hf => ?_)
  · refine r_iconst hB (v := 0) (by decide +kernel : decode cX2_isCode 13 = .ok (.iconst 0, 1)) (by decide +kernel) ?_
    obtain rfl := Option.some.inj hf
    obtain ⟨rfl, rfl⟩ := hk
    exact r_zret hB (Or.inl rfl) (by decide +kernel : decode cX2_isCode 14 = .ok (.ireturn, 1))
  · refine r_iconst hB (v := 1) (by decide +kernel : decode cX2_isCode 9 = .ok (.iconst 1, 1)) (by decide +kernel) ?_
    refine r_goto hB (tgt := 14) (by decide +kernel : decode cX2_isCode 10 = .ok (.goto 4, 3)) (by decide) ?_
    obtain rfl := Option.some.inj hf
    obtain ⟨rfl, rfl⟩ := hk
    exact r_zret hB (Or.inr rfl) (by decide +kernel : decode cX2_isCode 14 = .ok (.ireturn, 1))
theorem m_X2_isCode (l : Launch) (D : va_G) (cy : Nat → ClassId) (b : Nat) {l0 : Nat} {μ : MS} {z : Int32 × MS} (hf : f_X2_isCode l0 μ = some z) : Met l yX2_isCode (.code yX2_isCode cX2_isCode 1 (some .boolean) :: GW) rmX2_isCode (Pw D cy b [.ref (b + l0)] μ) (Qw D cy b (some (.int z.1)) (z.2)) rmX2_isCode.cells rmX2_isCode.slots (fun q => b ≤ q) :=
  met_of (by decide) (Nat.le_of_ble_eq_true rfl) (fun X hB _ => (t_X2_isCode_0 hB hf ⟨rfl, rfl⟩))
-- PulseRemote.frame(III)I
set_option maxHeartbeats 4000000 in
set_option maxRecDepth 100000 in
theorem t_X11_frame_128 {X : BX} {D : va_G} {cy : Nat → ClassId} {b : Nat} {r : Option Value} {μ' : MS} (hB : BB X D cy b yX11_frame cX11_frame 4 (some .int) rmX11_frame) {l0 : Nat} {μ : MS} {z : (Int32 × MS)} (hf : f_X11_frame_128 l0 μ = some z) (hk : (fun z : Int32 × MS => r = some (.int z.1) ∧ μ' = z.2) z) : WW X D cy b r μ' 4 0 0 128 [(0, .ref (b + l0))] [] μ := by
  unfold f_X11_frame_128 at hf
  refine r_aload_n hB 0 rfl (by decide +kernel : decode cX11_frame 128 = .ok (.aload_n 0, 1)) rfl ?_
  refine r_gR hB cf11 8 (by decide) (own := "PulseRemote") rfl (Or.inl k_473) (by decide +kernel) (by decide +kernel : decode cX11_frame 129 = .ok (.getfield 55, 3)) hf (fun x129 hf => ?_)
  refine r_gI hB cf2 0 (by decide) (own := "PulseRemote") rfl (Or.inr ⟨_, k_296⟩) (by decide +kernel) (by decide +kernel : decode cX11_frame 132 = .ok (.getfield 302, 3)) hf (fun x132 hf => ?_)
  obtain rfl := Option.some.inj hf
  obtain ⟨rfl, rfl⟩ := hk
  exact r_iret hB (by decide +kernel : decode cX11_frame 135 = .ok (.ireturn, 1))
set_option maxHeartbeats 4000000 in
set_option maxRecDepth 100000 in
theorem t_X11_frame_0 {X : BX} {D : va_G} {cy : Nat → ClassId} {b : Nat} {r : Option Value} {μ' : MS} (hB : BB X D cy b yX11_frame cX11_frame 4 (some .int) rmX11_frame) {l0 : Nat} {l1 : Int32} {l2 : Int32} {l3 : Int32} {μ : MS} {z : (Int32 × MS)} (hf : f_X11_frame l0 l1 l2 l3 μ = some z) (hk : (fun z : Int32 × MS => r = some (.int z.1) ∧ μ' = z.2) z) : WW X D cy b r μ' 4 0 0 0 [(0, .ref (b + l0)), (1, .int l1), (2, .int l2), (3, .int l3)] [] μ := by
  unfold f_X11_frame at hf
  refine r_iload_n hB 1 rfl (by decide +kernel : decode cX11_frame 0 = .ok (.iload_n 1, 1)) rfl ?_
  refine r_cSi hB [.int l1] [] (own := "PulseRemote") rfl cmX11_isSlot smX11_isSlot (Or.inl ⟨rfl, k_589⟩) (by decide) rfl rfl rfl (Nat.le_of_ble_eq_true rfl) (by decide +kernel : decode cX11_frame 1 = .ok (.invokestatic 156, 3)) (fun z hz => m_X11_isSlot _ _ _ _ hz) rfl hf (fun z1 hf => ?_)
  refine r_if_eq hB (tgt := 20) (by decide +kernel : decode cX11_frame 4 = .ok (.ifCond .eq 16, 3)) (by decide) hf (fun _ hf => ?_) (fun _ hf => ?_)
  · refine r_iconst hB (v := (-1)) (by decide +kernel : decode cX11_frame 20 = .ok (.iconst (-1), 1)) (by decide +kernel) ?_
    obtain rfl := Option.some.inj hf
    obtain ⟨rfl, rfl⟩ := hk
    exact r_iret hB (by decide +kernel : decode cX11_frame 21 = .ok (.ireturn, 1))
  · refine r_iload_n hB 2 rfl (by decide +kernel : decode cX11_frame 7 = .ok (.iload_n 2, 1)) rfl ?_
    refine r_if_lt hB (tgt := 20) (by decide +kernel : decode cX11_frame 8 = .ok (.ifCond .lt 12, 3)) (by decide) hf (fun _ hf => ?_) (fun _ hf => ?_)
    · refine r_iconst hB (v := (-1)) (by decide +kernel : decode cX11_frame 20 = .ok (.iconst (-1), 1)) (by decide +kernel) ?_
      obtain rfl := Option.some.inj hf
      obtain ⟨rfl, rfl⟩ := hk
      exact r_iret hB (by decide +kernel : decode cX11_frame 21 = .ok (.ireturn, 1))
    · refine r_iload_n hB 3 rfl (by decide +kernel : decode cX11_frame 11 = .ok (.iload_n 3, 1)) rfl ?_
      refine r_iconst hB (v := 0) (by decide +kernel : decode cX11_frame 12 = .ok (.iconst 0, 1)) (by decide +kernel) ?_
      refine r_iconst hB (v := 4) (by decide +kernel : decode cX11_frame 13 = .ok (.iconst 4, 1)) (by decide +kernel) ?_
      refine r_cSi hB [.int l3, .int 0, .int 4] [] (own := "PulseRemote") rfl cmX11_inRange smX11_inRange (Or.inl ⟨rfl, k_506⟩) (by decide) rfl rfl rfl (Nat.le_of_ble_eq_true rfl) (by decide +kernel : decode cX11_frame 14 = .ok (.invokestatic 80, 3)) (fun z hz => m_X11_inRange _ _ _ _ hz) rfl hf (fun z14 hf => ?_)
      refine r_if_ne hB (tgt := 22) (by decide +kernel : decode cX11_frame 17 = .ok (.ifCond .ne 5, 3)) (by decide) hf (fun _ hf => ?_) (fun _ hf => ?_)
      · refine r_iconst hB (v := (-1)) (by decide +kernel : decode cX11_frame 20 = .ok (.iconst (-1), 1)) (by decide +kernel) ?_
        obtain rfl := Option.some.inj hf
        obtain ⟨rfl, rfl⟩ := hk
        exact r_iret hB (by decide +kernel : decode cX11_frame 21 = .ok (.ireturn, 1))
      · refine r_aload_n hB 0 rfl (by decide +kernel : decode cX11_frame 22 = .ok (.aload_n 0, 1)) rfl ?_
        refine r_gR hB cf11 7 (by decide) (own := "PulseRemote") rfl (Or.inl k_472) (by decide +kernel) (by decide +kernel : decode cX11_frame 23 = .ok (.getfield 48, 3)) hf (fun x23 hf => ?_)
        refine r_aload_n hB 0 rfl (by decide +kernel : decode cX11_frame 26 = .ok (.aload_n 0, 1)) rfl ?_
        refine r_gR hB cf11 0 (by decide) (own := "PulseRemote") rfl (Or.inl k_465) (by decide +kernel) (by decide +kernel : decode cX11_frame 27 = .ok (.getfield 12, 3)) hf (fun x27 hf => ?_)
        refine r_iload_n hB 1 rfl (by decide +kernel : decode cX11_frame 30 = .ok (.iload_n 1, 1)) rfl ?_
        refine r_cVr hB [.int l1] [.ref (b + x23)] cf7 (own := "PulseRemote") rfl cmX7_trainAt imX7_trainAt (Or.inl k_592) (by decide) rfl rfl rfl (Nat.le_of_ble_eq_true rfl) (by decide +kernel : decode cX11_frame 31 = .ok (.invokevirtual 159, 3)) (fun z hz => m_X7_trainAt _ _ _ _ hz) rfl hf (fun z31 hf => ?_)
        refine r_aload_n hB 0 rfl (by decide +kernel : decode cX11_frame 34 = .ok (.aload_n 0, 1)) rfl ?_
        refine r_gR hB cf11 0 (by decide) (own := "PulseRemote") rfl (Or.inl k_465) (by decide +kernel) (by decide +kernel : decode cX11_frame 35 = .ok (.getfield 12, 3)) hf (fun x35 hf => ?_)
        refine r_gI hB cf7 2 (by decide) (own := "PulseRemote") rfl (Or.inr ⟨_, k_216⟩) (by decide +kernel) (by decide +kernel : decode cX11_frame 38 = .ok (.getfield 163, 3)) hf (fun x38 hf => ?_)
        refine r_cVv hB [.ref (b + z31.1), .int x38] [] cf3 (own := "PulseRemote") rfl cmX3_split imX3_split (Or.inl k_597) (by decide) rfl rfl rfl (Nat.le_of_ble_eq_true rfl) (by decide +kernel : decode cX11_frame 41 = .ok (.invokevirtual 166, 3)) (fun z hz => m_X3_split _ _ _ _ hz) rfl hf (fun z41 hf => ?_)
        refine r_iload_n hB 2 rfl (by decide +kernel : decode cX11_frame 44 = .ok (.iload_n 2, 1)) rfl ?_
        refine r_aload_n hB 0 rfl (by decide +kernel : decode cX11_frame 45 = .ok (.aload_n 0, 1)) rfl ?_
        refine r_gR hB cf11 7 (by decide) (own := "PulseRemote") rfl (Or.inl k_472) (by decide +kernel) (by decide +kernel : decode cX11_frame 46 = .ok (.getfield 48, 3)) hf (fun x46 hf => ?_)
        refine r_gI hB cf3 2 (by decide) (own := "PulseRemote") rfl (Or.inr ⟨_, k_277⟩) (by decide +kernel) (by decide +kernel : decode cX11_frame 49 = .ok (.getfield 286, 3)) hf (fun x49 hf => ?_)
        refine r_icmp_lt hB (tgt := 58) (by decide +kernel : decode cX11_frame 52 = .ok (.if_icmp .lt 6, 3)) (by decide) hf (fun _ hf => ?_) (fun _ hf => ?_)
        · refine r_iload_n hB 3 rfl (by decide +kernel : decode cX11_frame 58 = .ok (.iload_n 3, 1)) rfl ?_
          refine r_iconst hB (v := 2) (by decide +kernel : decode cX11_frame 59 = .ok (.iconst 2, 1)) (by decide +kernel) ?_
          refine r_icmp_ge hB (tgt := 87) (by decide +kernel : decode cX11_frame 60 = .ok (.if_icmp .ge 27, 3)) (by decide) hf (fun _ hf => ?_) (fun _ hf => ?_)
          · refine r_aload_n hB 0 rfl (by decide +kernel : decode cX11_frame 87 = .ok (.aload_n 0, 1)) rfl ?_
            refine r_gR hB cf11 8 (by decide) (own := "PulseRemote") rfl (Or.inl k_473) (by decide +kernel) (by decide +kernel : decode cX11_frame 88 = .ok (.getfield 55, 3)) hf (fun x88 hf => ?_)
            refine r_aload_n hB 0 rfl (by decide +kernel : decode cX11_frame 91 = .ok (.aload_n 0, 1)) rfl ?_
            refine r_gR hB cf11 0 (by decide) (own := "PulseRemote") rfl (Or.inl k_465) (by decide +kernel) (by decide +kernel : decode cX11_frame 92 = .ok (.getfield 12, 3)) hf (fun x92 hf => ?_)
            refine r_gR hB cf7 0 (by decide) (own := "PulseRemote") rfl (Or.inr ⟨_, k_212⟩) (by decide +kernel) (by decide +kernel : decode cX11_frame 95 = .ok (.getfield 84, 3)) hf (fun x95 hf => ?_)
            refine r_aload_n hB 0 rfl (by decide +kernel : decode cX11_frame 98 = .ok (.aload_n 0, 1)) rfl ?_
            refine r_gR hB cf11 7 (by decide) (own := "PulseRemote") rfl (Or.inl k_472) (by decide +kernel) (by decide +kernel : decode cX11_frame 99 = .ok (.getfield 48, 3)) hf (fun x99 hf => ?_)
            refine r_iload_n hB 2 rfl (by decide +kernel : decode cX11_frame 102 = .ok (.iload_n 2, 1)) rfl ?_
            refine r_aload_n hB 0 rfl (by decide +kernel : decode cX11_frame 103 = .ok (.aload_n 0, 1)) rfl ?_
            refine r_gR hB cf11 0 (by decide) (own := "PulseRemote") rfl (Or.inl k_465) (by decide +kernel) (by decide +kernel : decode cX11_frame 104 = .ok (.getfield 12, 3)) hf (fun x104 hf => ?_)
            refine r_gI hB cf7 4 (by decide) (own := "PulseRemote") rfl (Or.inr ⟨_, k_222⟩) (by decide +kernel) (by decide +kernel : decode cX11_frame 107 = .ok (.getfield 226, 3)) hf (fun x107 hf => ?_)
            refine r_cVv hB [.ref (b + x95), .ref (b + x99), .int l2, .int x107] [] cf2 (own := "PulseRemote") rfl cmX2_decode imX2_decode (Or.inl k_958) (by decide) rfl rfl rfl (Nat.le_of_ble_eq_true rfl) (by decide +kernel : decode cX11_frame 110 = .ok (.invokevirtual 295, 3)) (fun z hz => m_X2_decode _ _ _ _ hz) rfl hf (fun z110 hf => ?_)
            refine r_iload_n hB 3 rfl (by decide +kernel : decode cX11_frame 113 = .ok (.iload_n 3, 1)) rfl ?_
            refine r_iconst hB (v := 2) (by decide +kernel : decode cX11_frame 114 = .ok (.iconst 2, 1)) (by decide +kernel) ?_
            refine r_icmp_eq hB (tgt := 128) (by decide +kernel : decode cX11_frame 115 = .ok (.if_icmp .eq 13, 3)) (by decide) hf (fun _ hf => ?_) (fun _ hf => ?_)
            · exact WW.sub [0] rfl (t_X11_frame_128 hB hf hk)
            · refine r_aload_n hB 0 rfl (by decide +kernel : decode cX11_frame 118 = .ok (.aload_n 0, 1)) rfl ?_
              refine r_gR hB cf11 8 (by decide) (own := "PulseRemote") rfl (Or.inl k_473) (by decide +kernel) (by decide +kernel : decode cX11_frame 119 = .ok (.getfield 55, 3)) hf (fun x119 hf => ?_)
              refine r_cVi hB [] [] cf2 (own := "PulseRemote") rfl cmX2_isDecoded imX2_isDecoded (Or.inl k_1001) (by decide) rfl rfl rfl (Nat.le_of_ble_eq_true rfl) (by decide +kernel : decode cX11_frame 122 = .ok (.invokevirtual 299, 3)) (fun z hz => m_X2_isDecoded _ _ _ _ hz) rfl hf (fun z122 hf => ?_)
              refine r_if_ne hB (tgt := 136) (by decide +kernel : decode cX11_frame 125 = .ok (.ifCond .ne 11, 3)) (by decide) hf (fun _ hf => ?_) (fun _ hf => ?_)
              · exact WW.sub [0] rfl (t_X11_frame_128 hB hf hk)
              · refine r_iload_n hB 3 rfl (by decide +kernel : decode cX11_frame 136 = .ok (.iload_n 3, 1)) rfl ?_
                refine r_iconst hB (v := 3) (by decide +kernel : decode cX11_frame 137 = .ok (.iconst 3, 1)) (by decide +kernel) ?_
                refine r_icmp_ne hB (tgt := 149) (by decide +kernel : decode cX11_frame 138 = .ok (.if_icmp .ne 11, 3)) (by decide) hf (fun _ hf => ?_) (fun _ hf => ?_)
                · refine r_aload_n hB 0 rfl (by decide +kernel : decode cX11_frame 141 = .ok (.aload_n 0, 1)) rfl ?_
                  refine r_gR hB cf11 8 (by decide) (own := "PulseRemote") rfl (Or.inl k_473) (by decide +kernel) (by decide +kernel : decode cX11_frame 142 = .ok (.getfield 55, 3)) hf (fun x142 hf => ?_)
                  refine r_gI hB cf2 1 (by decide) (own := "PulseRemote") rfl (Or.inr ⟨_, k_299⟩) (by decide +kernel) (by decide +kernel : decode cX11_frame 145 = .ok (.getfield 305, 3)) hf (fun x145 hf => ?_)
                  obtain rfl := Option.some.inj hf
                  obtain ⟨rfl, rfl⟩ := hk
                  exact r_iret hB (by decide +kernel : decode cX11_frame 148 = .ok (.ireturn, 1))
                · refine r_aload_n hB 0 rfl (by decide +kernel : decode cX11_frame 149 = .ok (.aload_n 0, 1)) rfl ?_
                  refine r_gR hB cf11 8 (by decide) (own := "PulseRemote") rfl (Or.inl k_473) (by decide +kernel) (by decide +kernel : decode cX11_frame 150 = .ok (.getfield 55, 3)) hf (fun x150 hf => ?_)
                  refine r_cVi hB [] [] cf2 (own := "PulseRemote") rfl cmX2_isCode imX2_isCode (Or.inl k_1005) (by decide) rfl rfl rfl (Nat.le_of_ble_eq_true rfl) (by decide +kernel : decode cX11_frame 153 = .ok (.invokevirtual 308, 3)) (fun z hz => m_X2_isCode _ _ _ _ hz) rfl hf (fun z153 hf => ?_)
                  refine r_if_eq hB (tgt := 163) (by decide +kernel : decode cX11_frame 156 = .ok (.ifCond .eq 7, 3)) (by decide) hf (fun _ hf => ?_) (fun _ hf => ?_)
                  · refine r_iconst hB (v := 1) (by decide +kernel : decode cX11_frame 163 = .ok (.iconst 1, 1)) (by decide +kernel) ?_
                    obtain rfl := Option.some.inj hf
                    obtain ⟨rfl, rfl⟩ := hk
                    exact r_iret hB (by decide +kernel : decode cX11_frame 164 = .ok (.ireturn, 1))
                  · refine r_iconst hB (v := 0) (by decide +kernel : decode cX11_frame 159 = .ok (.iconst 0, 1)) (by decide +kernel) ?_
                    refine r_goto hB (tgt := 164) (by decide +kernel : decode cX11_frame 160 = .ok (.goto 4, 3)) (by decide) ?_
                    obtain rfl := Option.some.inj hf
                    obtain ⟨rfl, rfl⟩ := hk
                    exact r_iret hB (by decide +kernel : decode cX11_frame 164 = .ok (.ireturn, 1))
          · refine r_iload_n hB 3 rfl (by decide +kernel : decode cX11_frame 63 = .ok (.iload_n 3, 1)) rfl ?_
            refine r_if_ne hB (tgt := 78) (by decide +kernel : decode cX11_frame 64 = .ok (.ifCond .ne 14, 3)) (by decide) hf (fun _ hf => ?_) (fun _ hf => ?_)
            · refine r_aload_n hB 0 rfl (by decide +kernel : decode cX11_frame 67 = .ok (.aload_n 0, 1)) rfl ?_
              refine r_gR hB cf11 7 (by decide) (own := "PulseRemote") rfl (Or.inl k_472) (by decide +kernel) (by decide +kernel : decode cX11_frame 68 = .ok (.getfield 48, 3)) hf (fun x68 hf => ?_)
              refine r_iload_n hB 2 rfl (by decide +kernel : decode cX11_frame 71 = .ok (.iload_n 2, 1)) rfl ?_
              refine r_cVi hB [.int l2] [] cf3 (own := "PulseRemote") rfl cmX3_startOf imX3_startOf (Or.inl k_956) (by decide) rfl rfl rfl (Nat.le_of_ble_eq_true rfl) (by decide +kernel : decode cX11_frame 72 = .ok (.invokevirtual 289, 3)) (fun z hz => m_X3_startOf _ _ _ _ hz) rfl hf (fun z72 hf => ?_)
              refine r_goto hB (tgt := 86) (by decide +kernel : decode cX11_frame 75 = .ok (.goto 11, 3)) (by decide) ?_
              obtain rfl := Option.some.inj hf
              obtain ⟨rfl, rfl⟩ := hk
              exact r_iret hB (by decide +kernel : decode cX11_frame 86 = .ok (.ireturn, 1))
            · refine r_aload_n hB 0 rfl (by decide +kernel : decode cX11_frame 78 = .ok (.aload_n 0, 1)) rfl ?_
              refine r_gR hB cf11 7 (by decide) (own := "PulseRemote") rfl (Or.inl k_472) (by decide +kernel) (by decide +kernel : decode cX11_frame 79 = .ok (.getfield 48, 3)) hf (fun x79 hf => ?_)
              refine r_iload_n hB 2 rfl (by decide +kernel : decode cX11_frame 82 = .ok (.iload_n 2, 1)) rfl ?_
              refine r_cVi hB [.int l2] [] cf3 (own := "PulseRemote") rfl cmX3_sizeOf imX3_sizeOf (Or.inl k_957) (by decide) rfl rfl rfl (Nat.le_of_ble_eq_true rfl) (by decide +kernel : decode cX11_frame 83 = .ok (.invokevirtual 292, 3)) (fun z hz => m_X3_sizeOf _ _ _ _ hz) rfl hf (fun z83 hf => ?_)
              obtain rfl := Option.some.inj hf
              obtain ⟨rfl, rfl⟩ := hk
              exact r_iret hB (by decide +kernel : decode cX11_frame 86 = .ok (.ireturn, 1))
        · refine r_bipush hB (v := (-9)) (by decide +kernel : decode cX11_frame 55 = .ok (.bipush (-9), 2)) (by decide +kernel) ?_
          obtain rfl := Option.some.inj hf
          obtain ⟨rfl, rfl⟩ := hk
          exact r_iret hB (by decide +kernel : decode cX11_frame 57 = .ok (.ireturn, 1))
theorem m_X11_frame (l : Launch) (D : va_G) (cy : Nat → ClassId) (b : Nat) {l0 : Nat} {l1 : Int32} {l2 : Int32} {l3 : Int32} {μ : MS} {z : Int32 × MS} (hf : f_X11_frame l0 l1 l2 l3 μ = some z) : Met l yX11_frame (.code yX11_frame cX11_frame 4 (some .int) :: GW) rmX11_frame (Pw D cy b [.ref (b + l0), .int l1, .int l2, .int l3] μ) (Qw D cy b (some (.int z.1)) (z.2)) rmX11_frame.cells rmX11_frame.slots (fun q => b ≤ q) :=
  met_of (by decide) (Nat.le_of_ble_eq_true rfl) (fun X hB _ => (t_X11_frame_0 hB hf ⟨rfl, rfl⟩))
