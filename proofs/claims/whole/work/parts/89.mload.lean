/-! The model: the past; load(). -/
section
variable {p : Nat → Nat} {z l : Nat → Int → Int}
def pst6 (z : Nat → Int → Int) : Int → Int → Int := fun j k => z 191 (686 * j + k)
set_option maxHeartbeats 4000000 in
theorem m_note50 {n : Int} (h2 : z 189 2 = n) (h0 : 0 ≤ n) (h6 : n < 6) : WP (f_X12_note_50 189 (M p z l)) (fun μ => ∃ z', μ = M p z' l ∧ (∀ k, k ≠ 189 → k ≠ 191 → z' k = z k) ∧ (∀ j, j ≠ 2 → z' 189 j = z 189 j) ∧ z' 189 2 = n + 1 ∧ ∀ i, z' 191 i = if 686 * n ≤ i ∧ i < 686 * n + 686 then z 190 (i - 686 * n) else z 191 i) := by
  unfold f_X12_note_50 f_X12_note_52
  refine lp_W (fun m st => ∃ (k : Nat) (z' : Nat → Int → Int), st = (189, I3 k, M p z' l) ∧ k ≤ 686 ∧ m = 686 - k ∧ (∀ c, c ≠ 191 → z' c = z c) ∧ ∀ i, z' 191 i = if 686 * n ≤ i ∧ i < 686 * n + k then z 190 (i - 686 * n) else z 191 i) (fun m st hst => ?_) ⟨0, z, rfl, by omega, rfl, fun _ _ => rfl, fun i => by rw [if_neg (by omega)]⟩
  obtain ⟨k, z', rfl, hk, rfl, hF, hI⟩ := hst
  have e2 : z' 189 2 = n := by rw [hF 189 (by decide)]; exact h2
  have e190 : z' 190 = z 190 := hF 190 (by decide)
  unfold f_X12_note_52_b
  by_cases hk6 : k < 686
  · simp (disch := first | assumption | omega) only [↓b_hid, bH_some, ↓hid_W, W_some, I3_a, I3_s, I3_m, I3_n, I3_l, I3_lt, I3_le, I3_e, I3_dv, I3_rm, I3_mx, I3_mn, I3_ab, cI, bI_0, bI_1, rZ_b, up_same, up_row, up_col, xr_some, LQ_r, LQ_l, Int.sub_self, Int.add_zero, Int.zero_add, Int.sub_zero, Int.neg_neg, not_true_eq_false, not_false_eq_true, Int.add_sub_cancel, ↓ite_iH, iH_t, iH_f, bH_iH, ↓bH_bind, xr_iH, ↓xr_bind, W_iH, WI_t, WI_f, gI_189, pI_189, iO_189, gR_189_0, aI_190, sI_190, gR_189_1, aI_191, sI_191, gR_189_3, aI_192, gR_189_10, aI_193, sI_193, gR_189_11, aI_194, sI_194, gR_189_13, aI_195, sI_195, gR_189_15, aI_196, sI_196, gR_189_17, aI_197, sI_197, gR_189_18, aI_198, sI_198, gR_189_19, aI_199, sI_199, gR_189_20, aI_200, sI_200, gR_189_23, aI_201, gR_189_24, aI_202, sI_202, gR_189_25, aI_203, sI_203, gR_189_29, aI_204, sI_204, gR_189_32, aI_205, sI_205, gR_189_35, aI_206, sI_206, pZ_189, gL_189, pL_189, e2, e190, iH_pos, iH_neg, WI_pos, WI_neg]
    refine ⟨_, ?_, k + 1, _, by rw [Int.natCast_add]; rfl, by omega, rfl, fun c hc => by rw [up_row hc]; exact hF c hc, fun i => ?_⟩
    · omega
    · by_cases hi : i = 686 * n + k
      · rw [hi, up_same, if_pos (by omega)]; congr 1; omega
      · rw [up_col hi, hI i]
        by_cases h3 : 686 * n ≤ i ∧ i < 686 * n + k
        · rw [if_pos h3, if_pos (by omega)]
        · rw [if_neg h3, if_neg (by omega)]
  · have : k = 686 := by omega
    subst this
    simp (disch := first | assumption | omega) only [↓b_hid, bH_some, ↓hid_W, W_some, I3_a, I3_s, I3_m, I3_n, I3_l, I3_lt, I3_le, I3_e, I3_dv, I3_rm, I3_mx, I3_mn, I3_ab, cI, bI_0, bI_1, rZ_b, up_same, up_row, up_col, xr_some, LQ_r, LQ_l, Int.sub_self, Int.add_zero, Int.zero_add, Int.sub_zero, Int.neg_neg, not_true_eq_false, not_false_eq_true, Int.add_sub_cancel, ↓ite_iH, iH_t, iH_f, bH_iH, ↓bH_bind, xr_iH, ↓xr_bind, W_iH, WI_t, WI_f, gI_189, pI_189, iO_189, gR_189_0, aI_190, sI_190, gR_189_1, aI_191, sI_191, gR_189_3, aI_192, gR_189_10, aI_193, sI_193, gR_189_11, aI_194, sI_194, gR_189_13, aI_195, sI_195, gR_189_15, aI_196, sI_196, gR_189_17, aI_197, sI_197, gR_189_18, aI_198, sI_198, gR_189_19, aI_199, sI_199, gR_189_20, aI_200, sI_200, gR_189_23, aI_201, gR_189_24, aI_202, sI_202, gR_189_25, aI_203, sI_203, gR_189_29, aI_204, sI_204, gR_189_32, aI_205, sI_205, gR_189_35, aI_206, sI_206, pZ_189, gL_189, pL_189, f_X12_note_86, e2, iH_pos, iH_neg, WI_pos, WI_neg]
    refine ⟨_, rfl, fun c c0 c1 => by rw [up_row c0]; exact hF c c1, fun j hj => by rw [up_col hj, hF 189 (by decide)], up_same _ _ _ _, fun i => ?_⟩
    rw [up_row (by decide), hI i]; rfl
set_option maxHeartbeats 4000000 in
theorem m_note {n : Int} (h2 : z 189 2 = n) (h0 : 0 ≤ n) (h6 : n ≤ 6) : WP (f_X12_note 189 (M p z l)) (fun μ => ∃ z', μ = M p z' l ∧ (∀ k, k ≠ 189 → k ≠ 191 → z' k = z k) ∧ (∀ j, j ≠ 2 → z' 189 j = z 189 j) ∧ z' 189 2 = hsN n ∧ ∀ j k, 0 ≤ j → j < hsN n → 0 ≤ k → k < 686 → pst6 z' j k = hsP n (pst6 z) (z 190) j k) := by
  unfold f_X12_note
  by_cases hn : n = 6
  · subst hn
    simp (disch := first | assumption | omega) only [↓b_hid, bH_some, ↓hid_W, W_some, I3_a, I3_s, I3_m, I3_n, I3_l, I3_lt, I3_le, I3_e, I3_dv, I3_rm, I3_mx, I3_mn, I3_ab, cI, bI_0, bI_1, rZ_b, up_same, up_row, up_col, xr_some, LQ_r, LQ_l, Int.sub_self, Int.add_zero, Int.zero_add, Int.sub_zero, Int.neg_neg, not_true_eq_false, not_false_eq_true, Int.add_sub_cancel, ↓ite_iH, iH_t, iH_f, bH_iH, ↓bH_bind, xr_iH, ↓xr_bind, W_iH, WI_t, WI_f, gI_189, pI_189, iO_189, gR_189_0, aI_190, sI_190, gR_189_1, aI_191, sI_191, gR_189_3, aI_192, gR_189_10, aI_193, sI_193, gR_189_11, aI_194, sI_194, gR_189_13, aI_195, sI_195, gR_189_15, aI_196, sI_196, gR_189_17, aI_197, sI_197, gR_189_18, aI_198, sI_198, gR_189_19, aI_199, sI_199, gR_189_20, aI_200, sI_200, gR_189_23, aI_201, gR_189_24, aI_202, sI_202, gR_189_25, aI_203, sI_203, gR_189_29, aI_204, sI_204, gR_189_32, aI_205, sI_205, gR_189_35, aI_206, sI_206, pZ_189, gL_189, pL_189, h2, iH_pos, iH_neg, WI_pos, WI_neg]
    unfold f_X12_note_11
    refine lp_W (fun m st => ∃ (k : Nat) (z' : Nat → Int → Int), st = (189, I3 k, M p z' l) ∧ k ≤ 3430 ∧ m = 3430 - k ∧ (∀ c, c ≠ 191 → z' c = z c) ∧ ∀ i, z' 191 i = if 0 ≤ i ∧ i < (k : Int) then z 191 (i + 686) else z 191 i) (fun m st hst => ?_) ⟨0, z, rfl, by omega, rfl, fun _ _ => rfl, fun i => by rw [if_neg (by omega)]⟩
    obtain ⟨k, z', rfl, hk, rfl, hF, hI⟩ := hst
    have e2 : z' 189 2 = 6 := by rw [hF 189 (by decide)]; exact h2
    unfold f_X12_note_11_b
    by_cases hk6 : k < 3430
    · have er : z' 191 (k + 686) = z 191 (k + 686) := by rw [hI, if_neg (by omega)]
      simp (disch := first | assumption | omega) only [↓b_hid, bH_some, ↓hid_W, W_some, I3_a, I3_s, I3_m, I3_n, I3_l, I3_lt, I3_le, I3_e, I3_dv, I3_rm, I3_mx, I3_mn, I3_ab, cI, bI_0, bI_1, rZ_b, up_same, up_row, up_col, xr_some, LQ_r, LQ_l, Int.sub_self, Int.add_zero, Int.zero_add, Int.sub_zero, Int.neg_neg, not_true_eq_false, not_false_eq_true, Int.add_sub_cancel, ↓ite_iH, iH_t, iH_f, bH_iH, ↓bH_bind, xr_iH, ↓xr_bind, W_iH, WI_t, WI_f, gI_189, pI_189, iO_189, gR_189_0, aI_190, sI_190, gR_189_1, aI_191, sI_191, gR_189_3, aI_192, gR_189_10, aI_193, sI_193, gR_189_11, aI_194, sI_194, gR_189_13, aI_195, sI_195, gR_189_15, aI_196, sI_196, gR_189_17, aI_197, sI_197, gR_189_18, aI_198, sI_198, gR_189_19, aI_199, sI_199, gR_189_20, aI_200, sI_200, gR_189_23, aI_201, gR_189_24, aI_202, sI_202, gR_189_25, aI_203, sI_203, gR_189_29, aI_204, sI_204, gR_189_32, aI_205, sI_205, gR_189_35, aI_206, sI_206, pZ_189, gL_189, pL_189, er, iH_pos, iH_neg, WI_pos, WI_neg]
      refine ⟨_, ?_, k + 1, _, by rw [Int.natCast_add]; rfl, by omega, rfl, fun c hc => by rw [up_row hc]; exact hF c hc, fun i => ?_⟩
      · omega
      · by_cases hi : i = k
        · rw [hi, up_same, if_pos (by omega)]
        · rw [up_col hi, hI i]
          by_cases h3 : 0 ≤ i ∧ i < (k : Int)
          · rw [if_pos h3, if_pos (by omega)]
          · rw [if_neg h3, if_neg (by omega)]
    · have : k = 3430 := by omega
      subst this
      simp (disch := first | assumption | omega) only [↓b_hid, bH_some, ↓hid_W, W_some, I3_a, I3_s, I3_m, I3_n, I3_l, I3_lt, I3_le, I3_e, I3_dv, I3_rm, I3_mx, I3_mn, I3_ab, cI, bI_0, bI_1, rZ_b, up_same, up_row, up_col, xr_some, LQ_r, LQ_l, Int.sub_self, Int.add_zero, Int.zero_add, Int.sub_zero, Int.neg_neg, not_true_eq_false, not_false_eq_true, Int.add_sub_cancel, ↓ite_iH, iH_t, iH_f, bH_iH, ↓bH_bind, xr_iH, ↓xr_bind, W_iH, WI_t, WI_f, gI_189, pI_189, iO_189, gR_189_0, aI_190, sI_190, gR_189_1, aI_191, sI_191, gR_189_3, aI_192, gR_189_10, aI_193, sI_193, gR_189_11, aI_194, sI_194, gR_189_13, aI_195, sI_195, gR_189_15, aI_196, sI_196, gR_189_17, aI_197, sI_197, gR_189_18, aI_198, sI_198, gR_189_19, aI_199, sI_199, gR_189_20, aI_200, sI_200, gR_189_23, aI_201, gR_189_24, aI_202, sI_202, gR_189_25, aI_203, sI_203, gR_189_29, aI_204, sI_204, gR_189_32, aI_205, sI_205, gR_189_35, aI_206, sI_206, pZ_189, gL_189, pL_189, f_X12_note_40, e2, iH_pos, iH_neg, WI_pos, WI_neg]
      refine W_xr ?_
      simp only [LQ_r]
      refine W_imp (m_note50 (n := 5) (up_same _ _ _ _) (by decide) (by decide)) ?_
      rintro _ ⟨z2, rfl, a1, a2, a3, a4⟩
      refine ⟨z2, rfl, fun c c0 c1 => by rw [a1 c c0 c1, up_row c0]; exact hF c c1, fun j hj => by rw [a2 j hj, up_col hj, hF 189 (by decide)], a3, fun j k j0 j1 k0 k1 => ?_⟩
      have j1 : j < 6 := j1
      unfold pst6 hsP
      rw [if_neg (by decide), a4, up_row (by decide), up_row (by decide), hF 190 (by decide)]
      by_cases hj : j = 5
      · rw [if_pos (by omega), if_pos hj, hj]; congr 1; omega
      · rw [if_neg (by omega), if_neg hj, hI, if_pos (by omega)]; congr 1; omega
  · have hlt : n < 6 := by omega
    have h := m_note50 (p := p) (l := l) h2 h0 hlt
    simp (disch := first | assumption | omega) only [↓b_hid, bH_some, ↓hid_W, W_some, I3_a, I3_s, I3_m, I3_n, I3_l, I3_lt, I3_le, I3_e, I3_dv, I3_rm, I3_mx, I3_mn, I3_ab, cI, bI_0, bI_1, rZ_b, up_same, up_row, up_col, xr_some, LQ_r, LQ_l, Int.sub_self, Int.add_zero, Int.zero_add, Int.sub_zero, Int.neg_neg, not_true_eq_false, not_false_eq_true, Int.add_sub_cancel, ↓ite_iH, iH_t, iH_f, bH_iH, ↓bH_bind, xr_iH, ↓xr_bind, W_iH, WI_t, WI_f, gI_189, pI_189, iO_189, gR_189_0, aI_190, sI_190, gR_189_1, aI_191, sI_191, gR_189_3, aI_192, gR_189_10, aI_193, sI_193, gR_189_11, aI_194, sI_194, gR_189_13, aI_195, sI_195, gR_189_15, aI_196, sI_196, gR_189_17, aI_197, sI_197, gR_189_18, aI_198, sI_198, gR_189_19, aI_199, sI_199, gR_189_20, aI_200, sI_200, gR_189_23, aI_201, gR_189_24, aI_202, sI_202, gR_189_25, aI_203, sI_203, gR_189_29, aI_204, sI_204, gR_189_32, aI_205, sI_205, gR_189_35, aI_206, sI_206, pZ_189, gL_189, pL_189, h2, iH_pos, iH_neg, WI_pos, WI_neg]
    refine W_imp h ?_
    rintro _ ⟨z2, rfl, a1, a2, a3, a4⟩
    refine ⟨z2, rfl, a1, a2, by rw [a3]; unfold hsN; rw [if_pos hlt], fun j k j0 j1 k0 k1 => ?_⟩
    unfold hsN at j1
    rw [if_pos hlt] at j1
    unfold pst6 hsP
    rw [if_pos hlt, a4]
    by_cases hj : j = n
    · rw [if_pos (by omega), if_pos hj, hj]; congr 1; omega
    · rw [if_neg (by omega), if_neg hj]
set_option maxHeartbeats 4000000 in
theorem m_exch : WP (f_X12_exchanges 189 (M p z l)) (fun μ => ∃ z', μ = M p z' l ∧ (∀ k, k ≠ 190 → k ≠ 193 → z' k = z k) ∧ ∀ i, 0 ≤ i → i < 686 → z' 190 i = z 193 i ∧ z' 193 i = z 190 i) := by
  unfold f_X12_exchanges f_X12_exchanges_2
  refine lp_W (fun m st => ∃ (k : Nat) (z' : Nat → Int → Int), st = (189, I3 k, M p z' l) ∧ k ≤ 686 ∧ m = 686 - k ∧ (∀ c, c ≠ 190 → c ≠ 193 → z' c = z c) ∧ (∀ i, 0 ≤ i → i < (k : Int) → z' 190 i = z 193 i ∧ z' 193 i = z 190 i) ∧ ∀ i, (k : Int) ≤ i → z' 190 i = z 190 i ∧ z' 193 i = z 193 i) (fun m st hst => ?_) ⟨0, z, rfl, by omega, rfl, fun _ _ _ => rfl, fun i i0 i1 => by omega, fun i _ => ⟨rfl, rfl⟩⟩
  obtain ⟨k, z', rfl, hk, rfl, hF, hI, hJ⟩ := hst
  unfold f_X12_exchanges_2_b
  by_cases hk6 : k < 686
  · obtain ⟨j1, j2⟩ := hJ k (by omega)
    simp (disch := first | assumption | omega) only [↓b_hid, bH_some, ↓hid_W, W_some, I3_a, I3_s, I3_m, I3_n, I3_l, I3_lt, I3_le, I3_e, I3_dv, I3_rm, I3_mx, I3_mn, I3_ab, cI, bI_0, bI_1, rZ_b, up_same, up_row, up_col, xr_some, LQ_r, LQ_l, Int.sub_self, Int.add_zero, Int.zero_add, Int.sub_zero, Int.neg_neg, not_true_eq_false, not_false_eq_true, Int.add_sub_cancel, ↓ite_iH, iH_t, iH_f, bH_iH, ↓bH_bind, xr_iH, ↓xr_bind, W_iH, WI_t, WI_f, gI_189, pI_189, iO_189, gR_189_0, aI_190, sI_190, gR_189_1, aI_191, sI_191, gR_189_3, aI_192, gR_189_10, aI_193, sI_193, gR_189_11, aI_194, sI_194, gR_189_13, aI_195, sI_195, gR_189_15, aI_196, sI_196, gR_189_17, aI_197, sI_197, gR_189_18, aI_198, sI_198, gR_189_19, aI_199, sI_199, gR_189_20, aI_200, sI_200, gR_189_23, aI_201, gR_189_24, aI_202, sI_202, gR_189_25, aI_203, sI_203, gR_189_29, aI_204, sI_204, gR_189_32, aI_205, sI_205, gR_189_35, aI_206, sI_206, pZ_189, gL_189, pL_189, j1, j2, iH_pos, iH_neg, WI_pos, WI_neg]
    refine ⟨_, ?_, k + 1, _, by rw [Int.natCast_add]; rfl, by omega, rfl, fun c c0 c1 => by rw [up_row c1, up_row c0]; exact hF c c0 c1, fun i i0 i1 => ?_, fun i i0 => ?_⟩
    · omega
    · by_cases hi : i = k
      · rw [hi]; exact ⟨by rw [up_row (by decide), up_same], by rw [up_same]⟩
      · rw [up_row (by decide), up_col hi, up_col hi, up_row (by decide)]; exact hI i i0 (by omega)
    · rw [up_row (by decide), up_col (by omega), up_col (by omega), up_row (by decide)]; exact hJ i (by omega)
  · have : k = 686 := by omega
    subst this
    simp (disch := first | assumption | omega) only [↓b_hid, bH_some, ↓hid_W, W_some, I3_a, I3_s, I3_m, I3_n, I3_l, I3_lt, I3_le, I3_e, I3_dv, I3_rm, I3_mx, I3_mn, I3_ab, cI, bI_0, bI_1, rZ_b, up_same, up_row, up_col, xr_some, LQ_r, LQ_l, Int.sub_self, Int.add_zero, Int.zero_add, Int.sub_zero, Int.neg_neg, not_true_eq_false, not_false_eq_true, Int.add_sub_cancel, ↓ite_iH, iH_t, iH_f, bH_iH, ↓bH_bind, xr_iH, ↓xr_bind, W_iH, WI_t, WI_f, gI_189, pI_189, iO_189, gR_189_0, aI_190, sI_190, gR_189_1, aI_191, sI_191, gR_189_3, aI_192, gR_189_10, aI_193, sI_193, gR_189_11, aI_194, sI_194, gR_189_13, aI_195, sI_195, gR_189_15, aI_196, sI_196, gR_189_17, aI_197, sI_197, gR_189_18, aI_198, sI_198, gR_189_19, aI_199, sI_199, gR_189_20, aI_200, sI_200, gR_189_23, aI_201, gR_189_24, aI_202, sI_202, gR_189_25, aI_203, sI_203, gR_189_29, aI_204, sI_204, gR_189_32, aI_205, sI_205, gR_189_35, aI_206, sI_206, pZ_189, gL_189, pL_189, f_X12_exchanges_41, iH_pos, iH_neg, WI_pos, WI_neg]
    exact ⟨z', rfl, hF, fun i i0 i1 => hI i i0 (by omega)⟩
/-- reading, turn by turn -/
def LdI (T : Tx) (σ : Int → Int) (p : Nat → Nat) (zb : Nat → Int → Int) (n : Nat) (st : Nat × Int32 × MS) : Prop := ∃ (k : Nat) (z' l' : Nat → Int → Int), st = (189, I3 k, M p z' l') ∧ FrI zb z' ∧ ((∃ e, Mw e z' ∧ pTx T σ = .inl e ∧ n = 0) ∨ (∃ (q : Int) (τ : Int → Int), Ma T q z' l' ∧ ((k : Int) ≤ q ∧ q ≤ T.1) ∧ z' 190 = τ ∧ V τ ∧ k + n = 161 ∧ pTx T σ = pAl T n q τ k))
set_option maxHeartbeats 4000000 in
theorem m_191 {T : Tx} {σ τ : Int → Int} {zb : Nat → Int → Int} {Q : Int32 × MS → Prop} {k n : Nat} {q : Int} {μ : MS} (hT : Tg T) (hM : MtB zb T) (h0 : (k : Int) ≤ q) (h1 : q ≤ T.1) (hkn : k + (n + 1) = 161) (hK : tkK T q ≠ 0) (hE : pTx T σ = pAl T (n + 1) q τ k) (h : QM p T zb (pIt T τ q) μ) : WP (f_X12_load_191 189 (I3 k) μ) (LQ Q (LdI T σ p zb) (n + 1)) := by
  rw [pAl, if_neg hK] at hE
  obtain ⟨z1, l1, rfl, hF, hR⟩ := h
  rcases hR with ⟨e, hR, hw⟩ | ⟨q9, τ', hA, hq9, hτ, hV, hR⟩
  · rw [hR] at hE
    have fin : ∀ w : Int32, WP (f_X12_load_205 189 (I3 k) w 189 (M p z1 l1)) (LQ Q (LdI T σ p zb) (n + 1)) := by
      intro w
      unfold f_X12_load_205
      simp (disch := first | assumption | omega) only [↓b_hid, bH_some, ↓hid_W, W_some, I3_a, I3_s, I3_m, I3_n, I3_l, I3_lt, I3_le, I3_e, I3_dv, I3_rm, I3_mx, I3_mn, I3_ab, cI, bI_0, bI_1, rZ_b, up_same, up_row, up_col, xr_some, LQ_r, LQ_l, Int.sub_self, Int.add_zero, Int.zero_add, Int.sub_zero, Int.neg_neg, not_true_eq_false, not_false_eq_true, Int.add_sub_cancel, ↓ite_iH, iH_t, iH_f, bH_iH, ↓bH_bind, xr_iH, ↓xr_bind, W_iH, WI_t, WI_f, gI_189, pI_189, iO_189, gR_189_0, aI_190, sI_190, gR_189_1, aI_191, sI_191, gR_189_3, aI_192, gR_189_10, aI_193, sI_193, gR_189_11, aI_194, sI_194, gR_189_13, aI_195, sI_195, gR_189_15, aI_196, sI_196, gR_189_17, aI_197, sI_197, gR_189_18, aI_198, sI_198, gR_189_19, aI_199, sI_199, gR_189_20, aI_200, sI_200, gR_189_23, aI_201, gR_189_24, aI_202, sI_202, gR_189_25, aI_203, sI_203, gR_189_29, aI_204, sI_204, gR_189_32, aI_205, sI_205, gR_189_35, aI_206, sI_206, pZ_189, gL_189, pL_189]
      refine W_bH (W_imp (d_takes w hw) ?_)
      rintro _ ⟨z2, l2, rfl, a, b⟩
      simp (disch := first | assumption | omega) only [↓b_hid, bH_some, ↓hid_W, W_some, I3_a, I3_s, I3_m, I3_n, I3_l, I3_lt, I3_le, I3_e, I3_dv, I3_rm, I3_mx, I3_mn, I3_ab, cI, bI_0, bI_1, rZ_b, up_same, up_row, up_col, xr_some, LQ_r, LQ_l, Int.sub_self, Int.add_zero, Int.zero_add, Int.sub_zero, Int.neg_neg, not_true_eq_false, not_false_eq_true, Int.add_sub_cancel, ↓ite_iH, iH_t, iH_f, bH_iH, ↓bH_bind, xr_iH, ↓xr_bind, W_iH, WI_t, WI_f]
      exact ⟨0, by omega, k + 1, z2, l2, by rw [Int.natCast_add]; rfl, FrI_t hF (FrI_M a), Or.inl ⟨e, b, hE, rfl⟩⟩
    unfold f_X12_load_191
    simp (disch := first | assumption | omega) only [↓b_hid, bH_some, ↓hid_W, W_some, I3_a, I3_s, I3_m, I3_n, I3_l, I3_lt, I3_le, I3_e, I3_dv, I3_rm, I3_mx, I3_mn, I3_ab, cI, bI_0, bI_1, rZ_b, up_same, up_row, up_col, xr_some, LQ_r, LQ_l, Int.sub_self, Int.add_zero, Int.zero_add, Int.sub_zero, Int.neg_neg, not_true_eq_false, not_false_eq_true, Int.add_sub_cancel, ↓ite_iH, iH_t, iH_f, bH_iH, ↓bH_bind, xr_iH, ↓xr_bind, W_iH, WI_t, WI_f, gI_189, pI_189, iO_189, gR_189_0, aI_190, sI_190, gR_189_1, aI_191, sI_191, gR_189_3, aI_192, gR_189_10, aI_193, sI_193, gR_189_11, aI_194, sI_194, gR_189_13, aI_195, sI_195, gR_189_15, aI_196, sI_196, gR_189_17, aI_197, sI_197, gR_189_18, aI_198, sI_198, gR_189_19, aI_199, sI_199, gR_189_20, aI_200, sI_200, gR_189_23, aI_201, gR_189_24, aI_202, sI_202, gR_189_25, aI_203, sI_203, gR_189_29, aI_204, sI_204, gR_189_32, aI_205, sI_205, gR_189_35, aI_206, sI_206, pZ_189, gL_189, pL_189]
    refine WI_i (fun _ => ?_) (fun _ => ?_)
    · simp (disch := first | assumption | omega) only [↓b_hid, bH_some, ↓hid_W, W_some, I3_a, I3_s, I3_m, I3_n, I3_l, I3_lt, I3_le, I3_e, I3_dv, I3_rm, I3_mx, I3_mn, I3_ab, cI, bI_0, bI_1, rZ_b, up_same, up_row, up_col, xr_some, LQ_r, LQ_l, Int.sub_self, Int.add_zero, Int.zero_add, Int.sub_zero, Int.neg_neg, not_true_eq_false, not_false_eq_true, Int.add_sub_cancel, ↓ite_iH, iH_t, iH_f, bH_iH, ↓bH_bind, xr_iH, ↓xr_bind, W_iH, WI_t, WI_f]; exact fin _
    · simp (disch := first | assumption | omega) only [↓b_hid, bH_some, ↓hid_W, W_some, I3_a, I3_s, I3_m, I3_n, I3_l, I3_lt, I3_le, I3_e, I3_dv, I3_rm, I3_mx, I3_mn, I3_ab, cI, bI_0, bI_1, rZ_b, up_same, up_row, up_col, xr_some, LQ_r, LQ_l, Int.sub_self, Int.add_zero, Int.zero_add, Int.sub_zero, Int.neg_neg, not_true_eq_false, not_false_eq_true, Int.add_sub_cancel, ↓ite_iH, iH_t, iH_f, bH_iH, ↓bH_bind, xr_iH, ↓xr_bind, W_iH, WI_t, WI_f]; exact fin _
  · have g7 := hA.2.2.2.1
    have hkr : 0 ≤ tkK T q9 ∧ tkK T q9 ≤ 4 := by
      have := ckT_r T (tkS T q9)
      unfold tkK; split
      · split <;> omega
      · omega
    unfold f_X12_load_191
    by_cases h3 : tkK T q9 = 3
    · rw [if_pos h3] at hR
      have hgt := pIt_gt hT (by omega) h1 hR
      rw [hR] at hE
      rw [h3] at g7
      simp (disch := first | assumption | omega) only [↓b_hid, bH_some, ↓hid_W, W_some, I3_a, I3_s, I3_m, I3_n, I3_l, I3_lt, I3_le, I3_e, I3_dv, I3_rm, I3_mx, I3_mn, I3_ab, cI, bI_0, bI_1, rZ_b, up_same, up_row, up_col, xr_some, LQ_r, LQ_l, Int.sub_self, Int.add_zero, Int.zero_add, Int.sub_zero, Int.neg_neg, not_true_eq_false, not_false_eq_true, Int.add_sub_cancel, ↓ite_iH, iH_t, iH_f, bH_iH, ↓bH_bind, xr_iH, ↓xr_bind, W_iH, WI_t, WI_f, gI_189, pI_189, iO_189, gR_189_0, aI_190, sI_190, gR_189_1, aI_191, sI_191, gR_189_3, aI_192, gR_189_10, aI_193, sI_193, gR_189_11, aI_194, sI_194, gR_189_13, aI_195, sI_195, gR_189_15, aI_196, sI_196, gR_189_17, aI_197, sI_197, gR_189_18, aI_198, sI_198, gR_189_19, aI_199, sI_199, gR_189_20, aI_200, sI_200, gR_189_23, aI_201, gR_189_24, aI_202, sI_202, gR_189_25, aI_203, sI_203, gR_189_29, aI_204, sI_204, gR_189_32, aI_205, sI_205, gR_189_35, aI_206, sI_206, pZ_189, gL_189, pL_189, g7, f_X12_load_205, iH_pos, iH_neg, WI_pos, WI_neg]
      refine W_bH (W_imp (y_takes hT (MtB_I hF hM) hq9.1 hq9.2 hA) ?_)
      rintro _ ⟨z2, l2, rfl, a, b⟩
      have b9 := tkE_b hT hq9.1 hq9.2
      simp (disch := first | assumption | omega) only [↓b_hid, bH_some, ↓hid_W, W_some, I3_a, I3_s, I3_m, I3_n, I3_l, I3_lt, I3_le, I3_e, I3_dv, I3_rm, I3_mx, I3_mn, I3_ab, cI, bI_0, bI_1, rZ_b, up_same, up_row, up_col, xr_some, LQ_r, LQ_l, Int.sub_self, Int.add_zero, Int.zero_add, Int.sub_zero, Int.neg_neg, not_true_eq_false, not_false_eq_true, Int.add_sub_cancel, ↓ite_iH, iH_t, iH_f, bH_iH, ↓bH_bind, xr_iH, ↓xr_bind, W_iH, WI_t, WI_f]
      refine ⟨n, by omega, k + 1, z2, l2, by rw [Int.natCast_add]; rfl, FrI_t hF (FrI_M a), Or.inr ⟨tkE T q9, τ', b, by simp only at hgt; omega, ?_, hV, by omega, ?_⟩⟩
      · rw [a.1 190 (by decide)]; exact hτ
      · rw [hE, Int.natCast_add]; rfl
    · rw [if_neg h3] at hR
      rw [hR] at hE
      simp (disch := first | assumption | omega) only [↓b_hid, bH_some, ↓hid_W, W_some, I3_a, I3_s, I3_m, I3_n, I3_l, I3_lt, I3_le, I3_e, I3_dv, I3_rm, I3_mx, I3_mn, I3_ab, cI, bI_0, bI_1, rZ_b, up_same, up_row, up_col, xr_some, LQ_r, LQ_l, Int.sub_self, Int.add_zero, Int.zero_add, Int.sub_zero, Int.neg_neg, not_true_eq_false, not_false_eq_true, Int.add_sub_cancel, ↓ite_iH, iH_t, iH_f, bH_iH, ↓bH_bind, xr_iH, ↓xr_bind, W_iH, WI_t, WI_f, gI_189, pI_189, iO_189, gR_189_0, aI_190, sI_190, gR_189_1, aI_191, sI_191, gR_189_3, aI_192, gR_189_10, aI_193, sI_193, gR_189_11, aI_194, sI_194, gR_189_13, aI_195, sI_195, gR_189_15, aI_196, sI_196, gR_189_17, aI_197, sI_197, gR_189_18, aI_198, sI_198, gR_189_19, aI_199, sI_199, gR_189_20, aI_200, sI_200, gR_189_23, aI_201, gR_189_24, aI_202, sI_202, gR_189_25, aI_203, sI_203, gR_189_29, aI_204, sI_204, gR_189_32, aI_205, sI_205, gR_189_35, aI_206, sI_206, pZ_189, gL_189, pL_189, g7, f_X12_load_205, iH_pos, iH_neg, WI_pos, WI_neg]
      refine W_bH (W_imp (n_takes hA) ?_)
      rintro _ ⟨z2, l2, rfl, a, b⟩
      simp (disch := first | assumption | omega) only [↓b_hid, bH_some, ↓hid_W, W_some, I3_a, I3_s, I3_m, I3_n, I3_l, I3_lt, I3_le, I3_e, I3_dv, I3_rm, I3_mx, I3_mn, I3_ab, cI, bI_0, bI_1, rZ_b, up_same, up_row, up_col, xr_some, LQ_r, LQ_l, Int.sub_self, Int.add_zero, Int.zero_add, Int.sub_zero, Int.neg_neg, not_true_eq_false, not_false_eq_true, Int.add_sub_cancel, ↓ite_iH, iH_t, iH_f, bH_iH, ↓bH_bind, xr_iH, ↓xr_bind, W_iH, WI_t, WI_f]
      exact ⟨0, by omega, k + 1, z2, l2, by rw [Int.natCast_add]; rfl, FrI_t hF (FrI_M a), Or.inl ⟨_, b, hE, rfl⟩⟩
end
