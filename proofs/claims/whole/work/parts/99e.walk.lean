/-! THE LAW: its loop. -/
def offsL : Array Int := #[143, 196, 271, 304, 327, 350, 383, 416, 449, 472, 495, 518, 541, 554, 567, 600, 653, 696, 719, 762, 805, 838, 861, 884, 927, 960, 983, 1026, 1049, 1072, 1115, 1138]
theorem nI_3 (n : Nat) : nI n = I3 (n : Int) := (Int32.ofInt_eq_ofNat (n := n)).symm
theorem sw32 (x : Int32) : ∃ j : Nat, j < 32 ∧ x &&& 31 = nI j := pk_andE x (m := 31) 5 (by decide)
theorem d_sw : decode code 33 = .ok (.tableswitch 1151 0 31 offsL, 143) := by decide +kernel
set_option maxHeartbeats 4000000 in
/-- from the loop's head to a call -/
theorem law_head {X : BX} {D : va_G} {cy : Nat → ClassId} {b sa L : Nat} {sv : Nat → Int32} (hL : LW X D cy b sa L sv) {k : Nat} (hk : k + 7 ≤ L) {j tgt : Nat} {off : Int} (hj : sv (nI k).toNatClampNeg &&& 31 = nI j) (hj32 : j < 32) (ho : offsL[j]? = some off) (ht : (33 : Int) + off = (tgt : Int)) {r : Option Value} {μ μ' : MS} (K : WW X D cy b r μ' 4 0 0 tgt (lvL sa b k) [] μ) : WW X D cy b r μ' 4 0 0 18 (lvL sa b k) [] μ := by
  obtain ⟨hB, hX, hsa, hb, hL⟩ := hL
  have ei : (nI j).toInt = j := by rw [nI_3, I3_i (by omega) (by omega)]
  have hlt : ¬(nI L - 7 < nI k) := by
    rw [nI_3, nI_3, show (7 : Int32) = I3 7 from rfl, I3_s, I3_lt (by omega) (by omega) (by omega) (by omega)]
    omega
  refine r_iload_n hB 3 rfl (by decide +kernel : decode code 18 = .ok (.iload_n 3, 1)) rfl ?_
  refine r_aload_n hB 0 rfl (by decide +kernel : decode code 19 = .ok (.aload_n 0, 1)) rfl ?_
  refine r_slen hB hX hsa hb (by decide +kernel : decode code 20 = .ok (.arraylength, 1)) ?_
  refine r_bipush hB (v := 7) (by decide +kernel : decode code 21 = .ok (.bipush 7, 2)) (by decide +kernel) ?_
  refine r_isub hB (by decide +kernel : decode code 23 = .ok (.isub, 1)) ?_
  refine r_icmp_gt (A := none) (B := some ()) (R := ()) hB (tgt := 1190) (by decide +kernel : decode code 24 = .ok (.if_icmp .gt 1166, 3)) (by decide) (if_neg hlt) (fun h _ => absurd h hlt) (fun _ _ => ?_)
  refine r_aload_n hB 0 rfl (by decide +kernel : decode code 27 = .ok (.aload_n 0, 1)) rfl ?_
  refine r_iload_n hB 3 rfl (by decide +kernel : decode code 28 = .ok (.iload_n 3, 1)) rfl ?_
  refine r_sld hB hX hsa hb (vp_in_nI (by omega) (by omega)) (by decide +kernel : decode code 29 = .ok (.iaload, 1)) ?_
  refine r_bipush hB (v := 31) (by decide +kernel : decode code 30 = .ok (.bipush 31, 2)) (by decide +kernel) ?_
  refine r_iand hB (by decide +kernel : decode code 32 = .ok (.iand, 1)) ?_
  rw [hj]
  refine r_tabIn hB (off := off) (tgt := tgt) d_sw (by rw [ei]; omega) (by rw [ei]; omega) ?_ ht K
  rw [ei, show (((j : Nat) : Int) - 0).toNat = j by omega]
  exact ho
/-- from behind a call to the loop's head -/
theorem law_tail {X : BX} {D : va_G} {cy : Nat → ClassId} {b sa L : Nat} {sv : Nat → Int32} (hL : LW X D cy b sa L sv) {k : Nat} {r : Option Value} {μ μ' : MS} (K : WW X D cy b r μ' 4 0 0 18 (lvL sa b (k + 7)) [] μ) : WW X D cy b r μ' 4 0 0 1184 (lvL sa b k) [] μ := by
  obtain ⟨hB, hX, hsa, hb, hL⟩ := hL
  refine r_iinc hB (v := nI (k + 7)) (lv' := [(3, .int (nI (k + 7))), (0, .ref sa), (1, .ref (b + 0)), (2, .ref (b + 189))]) 3 rfl (by decide +kernel : decode code 1184 = .ok (.iinc 3 7, 3)) (by rw [show Int32.ofInt 7 = nI 7 from rfl, nI_plus]) (by decide) rfl ?_
  refine r_goto hB (tgt := 18) (by decide +kernel : decode code 1187 = .ok (.goto (-1169), 3)) (by decide) ?_
  exact WW.sub [1, 2, 3, 0] rfl K
set_option maxHeartbeats 4000000 in
/-- the end -/
theorem law_end {X : BX} {D : va_G} {cy : Nat → ClassId} {b sa L : Nat} {sv : Nat → Int32} (hL : LW X D cy b sa L sv) {k : Nat} (hk : ¬k + 7 ≤ L) (hk2 : k ≤ 4000) {μ : MS} : WW X D cy b (some (.int 1)) μ 4 0 0 18 (lvL sa b k) [] μ := by
  obtain ⟨hB, hX, hsa, hb, hL⟩ := hL
  have hlt : nI L - 7 < nI k := by
    rw [nI_3, nI_3, show (7 : Int32) = I3 7 from rfl, I3_s, I3_lt (by omega) (by omega) (by omega) (by omega)]
    omega
  refine r_iload_n hB 3 rfl (by decide +kernel : decode code 18 = .ok (.iload_n 3, 1)) rfl ?_
  refine r_aload_n hB 0 rfl (by decide +kernel : decode code 19 = .ok (.aload_n 0, 1)) rfl ?_
  refine r_slen hB hX hsa hb (by decide +kernel : decode code 20 = .ok (.arraylength, 1)) ?_
  refine r_bipush hB (v := 7) (by decide +kernel : decode code 21 = .ok (.bipush 7, 2)) (by decide +kernel) ?_
  refine r_isub hB (by decide +kernel : decode code 23 = .ok (.isub, 1)) ?_
  refine r_icmp_gt (A := some ()) (B := none) (R := ()) hB (tgt := 1190) (by decide +kernel : decode code 24 = .ok (.if_icmp .gt 1166, 3)) (by decide) (if_pos hlt) (fun _ _ => ?_) (fun h _ => absurd hlt h)
  refine r_iconst hB (v := 1) (by decide +kernel : decode code 1190 = .ok (.iconst 1, 1)) (by decide +kernel) ?_
  exact r_zret hB (Or.inr rfl) (by decide +kernel : decode code 1191 = .ok (.ireturn, 1))
set_option maxHeartbeats 4000000 in
theorem law_call {X : BX} {D : va_G} {cy : Nat → ClassId} {b sa L : Nat} {sv : Nat → Int32} (hL : LW X D cy b sa L sv) {k : Nat} (hk : k + 7 ≤ L) {p : Nat → Nat} {z l : Nat → Int → Int} (hJ : RJ p z) : ∃ p' z' l', RJ p' z' ∧ ∀ (r : Option Value) (μ' : MS), WW X D cy b r μ' 4 0 0 1184 (lvL sa b k) [] (M p' z' l') → WW X D cy b r μ' 4 0 0 18 (lvL sa b k) [] (M p z l) := by
  obtain ⟨j, hj, e⟩ := sw32 (sv (nI k).toNatClampNeg)
  have fin : ∀ (tgt : Nat) (off : Int), offsL[j]? = some off → (33 : Int) + off = (tgt : Int) → OpL X D cy b sa k tgt p z l → ∃ p' z' l', RJ p' z' ∧ ∀ (r : Option Value) (μ' : MS), WW X D cy b r μ' 4 0 0 1184 (lvL sa b k) [] (M p' z' l') → WW X D cy b r μ' 4 0 0 18 (lvL sa b k) [] (M p z l) := fun tgt off ho ht ⟨p', z', l', h1, h2⟩ => ⟨p', z', l', h1, fun r μ' K => law_head hL hk e hj ho ht (h2 r μ' K)⟩
  have hc : j = 0 ∨ j = 1 ∨ j = 2 ∨ j = 3 ∨ j = 4 ∨ j = 5 ∨ j = 6 ∨ j = 7 ∨ j = 8 ∨ j = 9 ∨ j = 10 ∨ j = 11 ∨ j = 12 ∨ j = 13 ∨ j = 14 ∨ j = 15 ∨ j = 16 ∨ j = 17 ∨ j = 18 ∨ j = 19 ∨ j = 20 ∨ j = 21 ∨ j = 22 ∨ j = 23 ∨ j = 24 ∨ j = 25 ∨ j = 26 ∨ j = 27 ∨ j = 28 ∨ j = 29 ∨ j = 30 ∨ j = 31 := by omega
  rcases hc with rfl | rfl | rfl | rfl | rfl | rfl | rfl | rfl | rfl | rfl | rfl | rfl | rfl | rfl | rfl | rfl | rfl | rfl | rfl | rfl | rfl | rfl | rfl | rfl | rfl | rfl | rfl | rfl | rfl | rfl | rfl | rfl
  · exact fin 176 143 rfl rfl (op_0 hL hk hJ)
  · exact fin 229 196 rfl rfl (op_1 hL hk hJ)
  · exact fin 304 271 rfl rfl (op_2 hL hk hJ)
  · exact fin 337 304 rfl rfl (op_3 hL hk hJ)
  · exact fin 360 327 rfl rfl (op_4 hL hk hJ)
  · exact fin 383 350 rfl rfl (op_5 hL hk hJ)
  · exact fin 416 383 rfl rfl (op_6 hL hk hJ)
  · exact fin 449 416 rfl rfl (op_7 hL hk hJ)
  · exact fin 482 449 rfl rfl (op_8 hL hk hJ)
  · exact fin 505 472 rfl rfl (op_9 hL hk hJ)
  · exact fin 528 495 rfl rfl (op_10 hL hk hJ)
  · exact fin 551 518 rfl rfl (op_11 hL hk hJ)
  · exact fin 574 541 rfl rfl (op_12 hL hk hJ)
  · exact fin 587 554 rfl rfl (op_13 hL hk hJ)
  · exact fin 600 567 rfl rfl (op_14 hL hk hJ)
  · exact fin 633 600 rfl rfl (op_15 hL hk hJ)
  · exact fin 686 653 rfl rfl (op_16 hL hk hJ)
  · exact fin 729 696 rfl rfl (op_17 hL hk hJ)
  · exact fin 752 719 rfl rfl (op_18 hL hk hJ)
  · exact fin 795 762 rfl rfl (op_19 hL hk hJ)
  · exact fin 838 805 rfl rfl (op_20 hL hk hJ)
  · exact fin 871 838 rfl rfl (op_21 hL hk hJ)
  · exact fin 894 861 rfl rfl (op_22 hL hk hJ)
  · exact fin 917 884 rfl rfl (op_23 hL hk hJ)
  · exact fin 960 927 rfl rfl (op_24 hL hk hJ)
  · exact fin 993 960 rfl rfl (op_25 hL hk hJ)
  · exact fin 1016 983 rfl rfl (op_26 hL hk hJ)
  · exact fin 1059 1026 rfl rfl (op_27 hL hk hJ)
  · exact fin 1082 1049 rfl rfl (op_28 hL hk hJ)
  · exact fin 1105 1072 rfl rfl (op_29 hL hk hJ)
  · exact fin 1148 1115 rfl rfl (op_30 hL hk hJ)
  · exact fin 1171 1138 rfl rfl (op_31 hL hk hJ)
theorem law_loop {X : BX} {D : va_G} {cy : Nat → ClassId} {b sa L : Nat} {sv : Nat → Int32} (hL : LW X D cy b sa L sv) : ∀ (n k : Nat) (p : Nat → Nat) (z l : Nat → Int → Int), L ≤ k + n → k ≤ L + 7 → RJ p z → ∃ μ', WW X D cy b (some (.int 1)) μ' 4 0 0 18 (lvL sa b k) [] (M p z l) := by
  intro n
  induction n with
  | zero =>
    intro k p z l h1 h2 hJ
    have := hL.2.2.2.2
    exact ⟨_, law_end hL (by omega) (by omega)⟩
  | succ n ih =>
    intro k p z l h1 h2 hJ
    have := hL.2.2.2.2
    by_cases hk : k + 7 ≤ L
    · obtain ⟨p', z', l', h4, K⟩ := law_call (l := l) hL hk hJ
      obtain ⟨μ', W⟩ := ih (k + 7) p' z' l' (by omega) (by omega) h4
      exact ⟨μ', K _ _ (law_tail hL W)⟩
    · exact ⟨_, law_end hL hk (by omega)⟩
