/-! The model: small methods, frames, codes. Its numbers are the row of cell 190. -/
section
variable {p : Nat → Nat} {z l : Nat → Int → Int}
theorem m_in {a b c : Int} {μ : MS} (ha : -2147483648 ≤ a) (ha' : a < 2147483648) (hb : -2147483648 ≤ b) (hb' : b < 2147483648) (hc : -2147483648 ≤ c) (hc' : c < 2147483648) : f_X12_in (I3 a) (I3 b) (I3 c) μ = some (I3 (bI (b ≤ a ∧ a ≤ c)), μ) := by
  apply W_eq; unfold f_X12_in; simp (disch := first | assumption | omega) only [↓b_hid, bH_some, ↓hid_W, ↓W_ite, WI_t, WI_f, W_some, I3_a, I3_s, I3_m, I3_n, I3_l, I3_lt, I3_le, I3_e, I3_dv, I3_rm, I3_mx, I3_mn, I3_ab, cI, bI_0, bI_1, rZ_b, up_same, up_row, up_col, xr_some, LQ_r, LQ_l, Int.sub_self, Int.add_zero, Int.zero_add, Int.sub_zero, Int.neg_neg, not_true_eq_false, not_false_eq_true, Int.add_sub_cancel]
  refine WI_i (fun h => ?_) (fun h => ?_)
  · simp (disch := first | assumption | omega) only [↓b_hid, bH_some, ↓hid_W, ↓W_ite, WI_t, WI_f, W_some, I3_a, I3_s, I3_m, I3_n, I3_l, I3_lt, I3_le, I3_e, I3_dv, I3_rm, I3_mx, I3_mn, I3_ab, cI, bI_0, bI_1, rZ_b, up_same, up_row, up_col, xr_some, LQ_r, LQ_l, Int.sub_self, Int.add_zero, Int.zero_add, Int.sub_zero, Int.neg_neg, not_true_eq_false, not_false_eq_true, Int.add_sub_cancel]; rw [bI_f (by omega)]
  · simp (disch := first | assumption | omega) only [↓b_hid, bH_some, ↓hid_W, ↓W_ite, WI_t, WI_f, W_some, I3_a, I3_s, I3_m, I3_n, I3_l, I3_lt, I3_le, I3_e, I3_dv, I3_rm, I3_mx, I3_mn, I3_ab, cI, bI_0, bI_1, rZ_b, up_same, up_row, up_col, xr_some, LQ_r, LQ_l, Int.sub_self, Int.add_zero, Int.zero_add, Int.sub_zero, Int.neg_neg, not_true_eq_false, not_false_eq_true, Int.add_sub_cancel]
    refine WI_i (fun h => ?_) (fun h => ?_)
    · simp (disch := first | assumption | omega) only [↓b_hid, bH_some, ↓hid_W, ↓W_ite, WI_t, WI_f, W_some, I3_a, I3_s, I3_m, I3_n, I3_l, I3_lt, I3_le, I3_e, I3_dv, I3_rm, I3_mx, I3_mn, I3_ab, cI, bI_0, bI_1, rZ_b, up_same, up_row, up_col, xr_some, LQ_r, LQ_l, Int.sub_self, Int.add_zero, Int.zero_add, Int.sub_zero, Int.neg_neg, not_true_eq_false, not_false_eq_true, Int.add_sub_cancel]; rw [bI_f (by omega)]
    · simp (disch := first | assumption | omega) only [↓b_hid, bH_some, ↓hid_W, ↓W_ite, WI_t, WI_f, W_some, I3_a, I3_s, I3_m, I3_n, I3_l, I3_lt, I3_le, I3_e, I3_dv, I3_rm, I3_mx, I3_mn, I3_ab, cI, bI_0, bI_1, rZ_b, up_same, up_row, up_col, xr_some, LQ_r, LQ_l, Int.sub_self, Int.add_zero, Int.zero_add, Int.sub_zero, Int.neg_neg, not_true_eq_false, not_false_eq_true, Int.add_sub_cancel]; rw [bI_t (by omega)]
theorem m_isSlot {a : Int} {μ : MS} (ha : -2147483648 ≤ a) (ha' : a < 2147483648) : f_X12_isSlot (I3 a) μ = some (I3 (bI (0 ≤ a ∧ a ≤ 2)), μ) := by
  apply W_eq; unfold f_X12_isSlot; simp (disch := first | assumption | omega) only [↓b_hid, bH_some, ↓hid_W, ↓W_ite, WI_t, WI_f, W_some, I3_a, I3_s, I3_m, I3_n, I3_l, I3_lt, I3_le, I3_e, I3_dv, I3_rm, I3_mx, I3_mn, I3_ab, cI, bI_0, bI_1, rZ_b, up_same, up_row, up_col, xr_some, LQ_r, LQ_l, Int.sub_self, Int.add_zero, Int.zero_add, Int.sub_zero, Int.neg_neg, not_true_eq_false, not_false_eq_true, Int.add_sub_cancel, m_in]
theorem m_isLength {a : Int} {μ : MS} (ha : -2147483648 ≤ a) (ha' : a < 2147483648) : f_X12_isLength (I3 a) μ = some (I3 (bI (50 ≤ a ∧ a ≤ 20000)), μ) := by
  apply W_eq; unfold f_X12_isLength; simp (disch := first | assumption | omega) only [↓b_hid, bH_some, ↓hid_W, ↓W_ite, WI_t, WI_f, W_some, I3_a, I3_s, I3_m, I3_n, I3_l, I3_lt, I3_le, I3_e, I3_dv, I3_rm, I3_mx, I3_mn, I3_ab, cI, bI_0, bI_1, rZ_b, up_same, up_row, up_col, xr_some, LQ_r, LQ_l, Int.sub_self, Int.add_zero, Int.zero_add, Int.sub_zero, Int.neg_neg, not_true_eq_false, not_false_eq_true, Int.add_sub_cancel, m_in]
theorem m_at {q : Int} {μ : MS} : f_X12_at (I3 q) μ = some (I3 (4 + 9 * q), μ) := by
  apply W_eq; unfold f_X12_at; simp (disch := first | assumption | omega) only [↓b_hid, bH_some, ↓hid_W, ↓W_ite, WI_t, WI_f, W_some, I3_a, I3_s, I3_m, I3_n, I3_l, I3_lt, I3_le, I3_e, I3_dv, I3_rm, I3_mx, I3_mn, I3_ab, cI, bI_0, bI_1, rZ_b, up_same, up_row, up_col, xr_some, LQ_r, LQ_l, Int.sub_self, Int.add_zero, Int.zero_add, Int.sub_zero, Int.neg_neg, not_true_eq_false, not_false_eq_true, Int.add_sub_cancel]
theorem m_trainAt {q : Int} {μ : MS} : f_X12_trainAt (I3 q) μ = some (I3 (86 + 200 * q), μ) := by
  apply W_eq; unfold f_X12_trainAt; simp (disch := first | assumption | omega) only [↓b_hid, bH_some, ↓hid_W, ↓W_ite, WI_t, WI_f, W_some, I3_a, I3_s, I3_m, I3_n, I3_l, I3_lt, I3_le, I3_e, I3_dv, I3_rm, I3_mx, I3_mn, I3_ab, cI, bI_0, bI_1, rZ_b, up_same, up_row, up_col, xr_some, LQ_r, LQ_l, Int.sub_self, Int.add_zero, Int.zero_add, Int.sub_zero, Int.neg_neg, not_true_eq_false, not_false_eq_true, Int.add_sub_cancel]
theorem m_isProtocol {a : Int} (h0 : 0 ≤ z 190 3) (h1 : z 190 3 ≤ 6) (ha : -2147483648 ≤ a) (ha' : a < 2147483648) : f_X12_isProtocol 189 (I3 a) (M p z l) = some (I3 (bI (0 ≤ a ∧ a < z 190 3)), M p z l) := by
  apply W_eq; unfold f_X12_isProtocol; simp (disch := first | assumption | omega) only [↓b_hid, bH_some, ↓hid_W, ↓W_ite, WI_t, WI_f, W_some, I3_a, I3_s, I3_m, I3_n, I3_l, I3_lt, I3_le, I3_e, I3_dv, I3_rm, I3_mx, I3_mn, I3_ab, cI, bI_0, bI_1, rZ_b, up_same, up_row, up_col, xr_some, LQ_r, LQ_l, Int.sub_self, Int.add_zero, Int.zero_add, Int.sub_zero, Int.neg_neg, not_true_eq_false, not_false_eq_true, Int.add_sub_cancel, gI_189, pI_189, iO_189, gR_189_0, aI_190, sI_190, gR_189_1, aI_191, sI_191, gR_189_3, aI_192, gR_189_10, aI_193, sI_193, gR_189_11, aI_194, sI_194, gR_189_13, aI_195, sI_195, gR_189_15, aI_196, sI_196, gR_189_17, aI_197, sI_197, gR_189_18, aI_198, sI_198, gR_189_19, aI_199, sI_199, gR_189_20, aI_200, sI_200, gR_189_23, aI_201, gR_189_24, aI_202, sI_202, gR_189_25, aI_203, sI_203, gR_189_29, aI_204, sI_204, gR_189_32, aI_205, sI_205, gR_189_35, aI_206, sI_206, pZ_189, gL_189, pL_189, m_in]
  rw [bI_c (show (0 ≤ a ∧ a ≤ z 190 3 - 1) ↔ (0 ≤ a ∧ a < z 190 3) by omega)]
theorem m_isCode {q c : Int} (hq : 0 ≤ q) (hq' : q < 6) (h0 : 0 ≤ z 190 (4 + 9 * q + 6)) (h1 : z 190 (4 + 9 * q + 6) ≤ 16) (hc : -2147483648 ≤ c) (hc' : c < 2147483648) : f_X12_isCode 189 (I3 q) (I3 c) (M p z l) = some (I3 (bI (0 ≤ c ∧ c < pw (z 190 (4 + 9 * q + 6)))), M p z l) := by
  have hp := pw_r h0 h1
  apply W_eq; unfold f_X12_isCode; simp (disch := first | assumption | omega) only [↓b_hid, bH_some, ↓hid_W, ↓W_ite, WI_t, WI_f, W_some, I3_a, I3_s, I3_m, I3_n, I3_l, I3_lt, I3_le, I3_e, I3_dv, I3_rm, I3_mx, I3_mn, I3_ab, cI, bI_0, bI_1, rZ_b, up_same, up_row, up_col, xr_some, LQ_r, LQ_l, Int.sub_self, Int.add_zero, Int.zero_add, Int.sub_zero, Int.neg_neg, not_true_eq_false, not_false_eq_true, Int.add_sub_cancel, gI_189, pI_189, iO_189, gR_189_0, aI_190, sI_190, gR_189_1, aI_191, sI_191, gR_189_3, aI_192, gR_189_10, aI_193, sI_193, gR_189_11, aI_194, sI_194, gR_189_13, aI_195, sI_195, gR_189_15, aI_196, sI_196, gR_189_17, aI_197, sI_197, gR_189_18, aI_198, sI_198, gR_189_19, aI_199, sI_199, gR_189_20, aI_200, sI_200, gR_189_23, aI_201, gR_189_24, aI_202, sI_202, gR_189_25, aI_203, sI_203, gR_189_29, aI_204, sI_204, gR_189_32, aI_205, sI_205, gR_189_35, aI_206, sI_206, pZ_189, gL_189, pL_189, m_at, shl1, m_in]
  rw [bI_c (show (0 ≤ c ∧ c ≤ pw (z 190 (4 + 9 * q + 6)) - 1) ↔ (0 ≤ c ∧ c < pw (z 190 (4 + 9 * q + 6))) by omega)]
/-- the model's made frame -/
def Md (z : Nat → Int → Int) (x : Dn) : Prop := z 189 12 = x.1 ∧ ∀ i, 0 ≤ i → i < x.1 → z 194 i = x.2 i
def FrK (z z' : Nat → Int → Int) : Prop := (∀ k, k ≠ 189 → k ≠ 194 → z' k = z k) ∧ ∀ j, j ≠ 12 → z' 189 j = z 189 j
theorem FrK_r (z : Nat → Int → Int) : FrK z z := ⟨fun _ _ _ => rfl, fun _ _ => rfl⟩
theorem FrK_t {z z' z'' : Nat → Int → Int} (h : FrK z z') (h' : FrK z' z'') : FrK z z'' := ⟨fun k h1 h2 => (h'.1 k h1 h2).trans (h.1 k h1 h2), fun j hj => (h'.2 j hj).trans (h.2 j hj)⟩
theorem m_lays {m v : Int} {x : Dn} (hx : Md z x) (h0 : 0 ≤ x.1) (h1 : x.1 < 80) (hm : m = 0 ∨ m = 1) : WP (f_X12_lays 189 (I3 m) (I3 v) (M p z l)) (fun μ => ∃ z', μ = M p z' l ∧ Md z' (flay m v x) ∧ FrK z z') := by
  obtain ⟨e, hd⟩ := hx
  have put : ¬(0 < x.1 ∧ x.1 % 2 = m) → WP (f_X12_lays_33 189 (I3 v) (M p z l)) (fun μ => ∃ z', μ = M p z' l ∧ Md z' (flay m v x) ∧ FrK z z') := by
    intro hn
    unfold f_X12_lays_33 flay
    rw [if_neg hn]
    simp (disch := first | assumption | omega) only [↓b_hid, bH_some, ↓hid_W, ↓W_ite, WI_t, WI_f, W_some, I3_a, I3_s, I3_m, I3_n, I3_l, I3_lt, I3_le, I3_e, I3_dv, I3_rm, I3_mx, I3_mn, I3_ab, cI, bI_0, bI_1, rZ_b, up_same, up_row, up_col, xr_some, LQ_r, LQ_l, Int.sub_self, Int.add_zero, Int.zero_add, Int.sub_zero, Int.neg_neg, not_true_eq_false, not_false_eq_true, Int.add_sub_cancel, gI_189, pI_189, iO_189, gR_189_0, aI_190, sI_190, gR_189_1, aI_191, sI_191, gR_189_3, aI_192, gR_189_10, aI_193, sI_193, gR_189_11, aI_194, sI_194, gR_189_13, aI_195, sI_195, gR_189_15, aI_196, sI_196, gR_189_17, aI_197, sI_197, gR_189_18, aI_198, sI_198, gR_189_19, aI_199, sI_199, gR_189_20, aI_200, sI_200, gR_189_23, aI_201, gR_189_24, aI_202, sI_202, gR_189_25, aI_203, sI_203, gR_189_29, aI_204, sI_204, gR_189_32, aI_205, sI_205, gR_189_35, aI_206, sI_206, pZ_189, gL_189, pL_189, e]
    refine ⟨_, rfl, ⟨by rw [up_same]; rfl, ?_⟩, ?_, ?_⟩
    · intro i hi hi'
      rw [up_row (by decide)]
      simp only [fput] at hi' ⊢
      by_cases h : i = x.1
      · rw [if_pos h, h, up_same]
      · rw [if_neg h, up_col h]; exact hd i hi (by omega)
    · intro k hk hk'; rw [up_row hk, up_row hk']
    · intro j hj; rw [up_col hj, up_row (by decide)]
  unfold f_X12_lays
  simp (disch := first | assumption | omega) only [↓b_hid, bH_some, ↓hid_W, ↓W_ite, WI_t, WI_f, W_some, I3_a, I3_s, I3_m, I3_n, I3_l, I3_lt, I3_le, I3_e, I3_dv, I3_rm, I3_mx, I3_mn, I3_ab, cI, bI_0, bI_1, rZ_b, up_same, up_row, up_col, xr_some, LQ_r, LQ_l, Int.sub_self, Int.add_zero, Int.zero_add, Int.sub_zero, Int.neg_neg, not_true_eq_false, not_false_eq_true, Int.add_sub_cancel, gI_189, pI_189, iO_189, gR_189_0, aI_190, sI_190, gR_189_1, aI_191, sI_191, gR_189_3, aI_192, gR_189_10, aI_193, sI_193, gR_189_11, aI_194, sI_194, gR_189_13, aI_195, sI_195, gR_189_15, aI_196, sI_196, gR_189_17, aI_197, sI_197, gR_189_18, aI_198, sI_198, gR_189_19, aI_199, sI_199, gR_189_20, aI_200, sI_200, gR_189_23, aI_201, gR_189_24, aI_202, sI_202, gR_189_25, aI_203, sI_203, gR_189_29, aI_204, sI_204, gR_189_32, aI_205, sI_205, gR_189_35, aI_206, sI_206, pZ_189, gL_189, pL_189, e]
  refine WI_i (fun h => ?_) (fun h => ?_)
  · simp (disch := first | assumption | omega) only [↓b_hid, bH_some, ↓hid_W, ↓W_ite, WI_t, WI_f, W_some, I3_a, I3_s, I3_m, I3_n, I3_l, I3_lt, I3_le, I3_e, I3_dv, I3_rm, I3_mx, I3_mn, I3_ab, cI, bI_0, bI_1, rZ_b, up_same, up_row, up_col, xr_some, LQ_r, LQ_l, Int.sub_self, Int.add_zero, Int.zero_add, Int.sub_zero, Int.neg_neg, not_true_eq_false, not_false_eq_true, Int.add_sub_cancel]; exact put (by omega)
  · have hk : f_X12_isMark 189 (M p z l) = some (I3 (x.1 % 2), M p z l) := by
      apply W_eq; unfold f_X12_isMark; simp (disch := first | assumption | omega) only [↓b_hid, bH_some, ↓hid_W, ↓W_ite, WI_t, WI_f, W_some, I3_a, I3_s, I3_m, I3_n, I3_l, I3_lt, I3_le, I3_e, I3_dv, I3_rm, I3_mx, I3_mn, I3_ab, cI, bI_0, bI_1, rZ_b, up_same, up_row, up_col, xr_some, LQ_r, LQ_l, Int.sub_self, Int.add_zero, Int.zero_add, Int.sub_zero, Int.neg_neg, not_true_eq_false, not_false_eq_true, Int.add_sub_cancel, gI_189, pI_189, iO_189, gR_189_0, aI_190, sI_190, gR_189_1, aI_191, sI_191, gR_189_3, aI_192, gR_189_10, aI_193, sI_193, gR_189_11, aI_194, sI_194, gR_189_13, aI_195, sI_195, gR_189_15, aI_196, sI_196, gR_189_17, aI_197, sI_197, gR_189_18, aI_198, sI_198, gR_189_19, aI_199, sI_199, gR_189_20, aI_200, sI_200, gR_189_23, aI_201, gR_189_24, aI_202, sI_202, gR_189_25, aI_203, sI_203, gR_189_29, aI_204, sI_204, gR_189_32, aI_205, sI_205, gR_189_35, aI_206, sI_206, pZ_189, gL_189, pL_189, e]
      refine WI_i (fun h => ?_) (fun h => ?_)
      · simp (disch := first | assumption | omega) only [↓b_hid, bH_some, ↓hid_W, ↓W_ite, WI_t, WI_f, W_some, I3_a, I3_s, I3_m, I3_n, I3_l, I3_lt, I3_le, I3_e, I3_dv, I3_rm, I3_mx, I3_mn, I3_ab, cI, bI_0, bI_1, rZ_b, up_same, up_row, up_col, xr_some, LQ_r, LQ_l, Int.sub_self, Int.add_zero, Int.zero_add, Int.sub_zero, Int.neg_neg, not_true_eq_false, not_false_eq_true, Int.add_sub_cancel]; rw [h]
      · simp (disch := first | assumption | omega) only [↓b_hid, bH_some, ↓hid_W, ↓W_ite, WI_t, WI_f, W_some, I3_a, I3_s, I3_m, I3_n, I3_l, I3_lt, I3_le, I3_e, I3_dv, I3_rm, I3_mx, I3_mn, I3_ab, cI, bI_0, bI_1, rZ_b, up_same, up_row, up_col, xr_some, LQ_r, LQ_l, Int.sub_self, Int.add_zero, Int.zero_add, Int.sub_zero, Int.neg_neg, not_true_eq_false, not_false_eq_true, Int.add_sub_cancel]; rw [show x.1 % 2 = 0 by omega]
    simp (disch := first | assumption | omega) only [↓b_hid, bH_some, ↓hid_W, ↓W_ite, WI_t, WI_f, W_some, I3_a, I3_s, I3_m, I3_n, I3_l, I3_lt, I3_le, I3_e, I3_dv, I3_rm, I3_mx, I3_mn, I3_ab, cI, bI_0, bI_1, rZ_b, up_same, up_row, up_col, xr_some, LQ_r, LQ_l, Int.sub_self, Int.add_zero, Int.zero_add, Int.sub_zero, Int.neg_neg, not_true_eq_false, not_false_eq_true, Int.add_sub_cancel, gI_189, pI_189, iO_189, gR_189_0, aI_190, sI_190, gR_189_1, aI_191, sI_191, gR_189_3, aI_192, gR_189_10, aI_193, sI_193, gR_189_11, aI_194, sI_194, gR_189_13, aI_195, sI_195, gR_189_15, aI_196, sI_196, gR_189_17, aI_197, sI_197, gR_189_18, aI_198, sI_198, gR_189_19, aI_199, sI_199, gR_189_20, aI_200, sI_200, gR_189_23, aI_201, gR_189_24, aI_202, sI_202, gR_189_25, aI_203, sI_203, gR_189_29, aI_204, sI_204, gR_189_32, aI_205, sI_205, gR_189_35, aI_206, sI_206, pZ_189, gL_189, pL_189, hk]
    refine WI_i (fun h' => ?_) (fun h' => ?_)
    · have hc : 0 < x.1 ∧ x.1 % 2 = m := ⟨by omega, h'⟩
      unfold flay; rw [if_pos hc]
      simp (disch := first | assumption | omega) only [↓b_hid, bH_some, ↓hid_W, ↓W_ite, WI_t, WI_f, W_some, I3_a, I3_s, I3_m, I3_n, I3_l, I3_lt, I3_le, I3_e, I3_dv, I3_rm, I3_mx, I3_mn, I3_ab, cI, bI_0, bI_1, rZ_b, up_same, up_row, up_col, xr_some, LQ_r, LQ_l, Int.sub_self, Int.add_zero, Int.zero_add, Int.sub_zero, Int.neg_neg, not_true_eq_false, not_false_eq_true, Int.add_sub_cancel, gI_189, pI_189, iO_189, gR_189_0, aI_190, sI_190, gR_189_1, aI_191, sI_191, gR_189_3, aI_192, gR_189_10, aI_193, sI_193, gR_189_11, aI_194, sI_194, gR_189_13, aI_195, sI_195, gR_189_15, aI_196, sI_196, gR_189_17, aI_197, sI_197, gR_189_18, aI_198, sI_198, gR_189_19, aI_199, sI_199, gR_189_20, aI_200, sI_200, gR_189_23, aI_201, gR_189_24, aI_202, sI_202, gR_189_25, aI_203, sI_203, gR_189_29, aI_204, sI_204, gR_189_32, aI_205, sI_205, gR_189_35, aI_206, sI_206, pZ_189, gL_189, pL_189, e]
      refine ⟨_, rfl, ⟨by rw [up_row (by decide)]; exact e, ?_⟩, ?_, ?_⟩
      · intro i hi hi'
        simp only at hi' ⊢
        by_cases h : i = x.1 - 1
        · rw [if_pos h, h, up_same, hd _ (by omega) (by omega)]
        · rw [if_neg h, up_col h]; exact hd i hi hi'
      · intro k hk hk'; rw [up_row hk']
      · intro j hj; rw [up_row (by decide)]
    · simp (disch := first | assumption | omega) only [↓b_hid, bH_some, ↓hid_W, ↓W_ite, WI_t, WI_f, W_some, I3_a, I3_s, I3_m, I3_n, I3_l, I3_lt, I3_le, I3_e, I3_dv, I3_rm, I3_mx, I3_mn, I3_ab, cI, bI_0, bI_1, rZ_b, up_same, up_row, up_col, xr_some, LQ_r, LQ_l, Int.sub_self, Int.add_zero, Int.zero_add, Int.sub_zero, Int.neg_neg, not_true_eq_false, not_false_eq_true, Int.add_sub_cancel]; exact put (by omega)
/-- the row of protocol q -/
def Rw (z : Nat → Int → Int) (q : Int) (f : Int → Int) : Prop := ∀ j, 0 ≤ j → j < 9 → z 190 (4 + 9 * q + j) = f j
theorem m_bit {q c k : Int} {f : Int → Int} (hq : 0 ≤ q) (hq' : q < 6) (hf : Rw z q f) (hP : PV f) (hc : 0 ≤ c) (hc' : c < 2147483648) (hk : 0 ≤ k) (hk' : k < f 6) : f_X12_bit 189 (I3 q) (I3 c) (I3 k) (M p z l) = some (I3 (fbit f c k), M p z l) := by
  obtain ⟨p0, p1, p2, p3, p4, p5, p6, p7⟩ := hP
  have h7 := hf 7 (by omega) (by omega)
  have h6 := hf 6 (by omega) (by omega)
  have fin : ∀ s : Int, s = plc f k → f_X12_bit_35 (I3 c) (I3 s) (M p z l) = some (I3 (fbit f c k), M p z l) := by
    intro s hs
    have hpl := plc_r (f := f) hk hk'
    have hb := bt_r c s
    have e := shr_bt hc hc' (show 0 ≤ s by omega) (show s ≤ 16 by omega)
    apply W_eq; unfold f_X12_bit_35
    simp (disch := first | assumption | omega) only [↓b_hid, bH_some, ↓hid_W, ↓W_ite, WI_t, WI_f, W_some, I3_a, I3_s, I3_m, I3_n, I3_l, I3_lt, I3_le, I3_e, I3_dv, I3_rm, I3_mx, I3_mn, I3_ab, cI, bI_0, bI_1, rZ_b, up_same, up_row, up_col, xr_some, LQ_r, LQ_l, Int.sub_self, Int.add_zero, Int.zero_add, Int.sub_zero, Int.neg_neg, not_true_eq_false, not_false_eq_true, Int.add_sub_cancel, e]
    unfold fbit; rw [← hs]
    refine WI_i (fun h => ?_) (fun h => ?_)
    · simp (disch := first | assumption | omega) only [↓b_hid, bH_some, ↓hid_W, ↓W_ite, WI_t, WI_f, W_some, I3_a, I3_s, I3_m, I3_n, I3_l, I3_lt, I3_le, I3_e, I3_dv, I3_rm, I3_mx, I3_mn, I3_ab, cI, bI_0, bI_1, rZ_b, up_same, up_row, up_col, xr_some, LQ_r, LQ_l, Int.sub_self, Int.add_zero, Int.zero_add, Int.sub_zero, Int.neg_neg, not_true_eq_false, not_false_eq_true, Int.add_sub_cancel]; rw [h]
    · simp (disch := first | assumption | omega) only [↓b_hid, bH_some, ↓hid_W, ↓W_ite, WI_t, WI_f, W_some, I3_a, I3_s, I3_m, I3_n, I3_l, I3_lt, I3_le, I3_e, I3_dv, I3_rm, I3_mx, I3_mn, I3_ab, cI, bI_0, bI_1, rZ_b, up_same, up_row, up_col, xr_some, LQ_r, LQ_l, Int.sub_self, Int.add_zero, Int.zero_add, Int.sub_zero, Int.neg_neg, not_true_eq_false, not_false_eq_true, Int.add_sub_cancel]; rw [show bt c s = 0 by omega]
  apply W_eq; unfold f_X12_bit
  simp (disch := first | assumption | omega) only [↓b_hid, bH_some, ↓hid_W, ↓W_ite, WI_t, WI_f, W_some, I3_a, I3_s, I3_m, I3_n, I3_l, I3_lt, I3_le, I3_e, I3_dv, I3_rm, I3_mx, I3_mn, I3_ab, cI, bI_0, bI_1, rZ_b, up_same, up_row, up_col, xr_some, LQ_r, LQ_l, Int.sub_self, Int.add_zero, Int.zero_add, Int.sub_zero, Int.neg_neg, not_true_eq_false, not_false_eq_true, Int.add_sub_cancel, gI_189, pI_189, iO_189, gR_189_0, aI_190, sI_190, gR_189_1, aI_191, sI_191, gR_189_3, aI_192, gR_189_10, aI_193, sI_193, gR_189_11, aI_194, sI_194, gR_189_13, aI_195, sI_195, gR_189_15, aI_196, sI_196, gR_189_17, aI_197, sI_197, gR_189_18, aI_198, sI_198, gR_189_19, aI_199, sI_199, gR_189_20, aI_200, sI_200, gR_189_23, aI_201, gR_189_24, aI_202, sI_202, gR_189_25, aI_203, sI_203, gR_189_29, aI_204, sI_204, gR_189_32, aI_205, sI_205, gR_189_35, aI_206, sI_206, pZ_189, gL_189, pL_189, m_at, h7]
  refine WI_i (fun h => ?_) (fun h => ?_)
  · have e := fin (f 6 - 1 - k) (by unfold plc; rw [if_neg (by omega)])
    simp (disch := first | assumption | omega) only [↓b_hid, bH_some, ↓hid_W, ↓W_ite, WI_t, WI_f, W_some, I3_a, I3_s, I3_m, I3_n, I3_l, I3_lt, I3_le, I3_e, I3_dv, I3_rm, I3_mx, I3_mn, I3_ab, cI, bI_0, bI_1, rZ_b, up_same, up_row, up_col, xr_some, LQ_r, LQ_l, Int.sub_self, Int.add_zero, Int.zero_add, Int.sub_zero, Int.neg_neg, not_true_eq_false, not_false_eq_true, Int.add_sub_cancel, gI_189, pI_189, iO_189, gR_189_0, aI_190, sI_190, gR_189_1, aI_191, sI_191, gR_189_3, aI_192, gR_189_10, aI_193, sI_193, gR_189_11, aI_194, sI_194, gR_189_13, aI_195, sI_195, gR_189_15, aI_196, sI_196, gR_189_17, aI_197, sI_197, gR_189_18, aI_198, sI_198, gR_189_19, aI_199, sI_199, gR_189_20, aI_200, sI_200, gR_189_23, aI_201, gR_189_24, aI_202, sI_202, gR_189_25, aI_203, sI_203, gR_189_29, aI_204, sI_204, gR_189_32, aI_205, sI_205, gR_189_35, aI_206, sI_206, pZ_189, gL_189, pL_189, m_at, h6, e]
  · have e := fin k (by unfold plc; rw [if_pos (by omega)])
    simp (disch := first | assumption | omega) only [↓b_hid, bH_some, ↓hid_W, ↓W_ite, WI_t, WI_f, W_some, I3_a, I3_s, I3_m, I3_n, I3_l, I3_lt, I3_le, I3_e, I3_dv, I3_rm, I3_mx, I3_mn, I3_ab, cI, bI_0, bI_1, rZ_b, up_same, up_row, up_col, xr_some, LQ_r, LQ_l, Int.sub_self, Int.add_zero, Int.zero_add, Int.sub_zero, Int.neg_neg, not_true_eq_false, not_false_eq_true, Int.add_sub_cancel, e]
def mK (f : Int → Int) (c : Int) (k : Nat) : Dn := if f 0 = 1 ∧ 0 < k then fput (f 3) (frK f c k) else frK f c k
theorem flay_put {m v : Int} {x : Dn} (h : ¬(0 < x.1 ∧ x.1 % 2 = m)) : flay m v x = fput v x := by unfold flay; rw [if_neg h]
theorem Md_congr {x y : Dn} (h : x.1 = y.1) (h' : ∀ i, 0 ≤ i → i < x.1 → x.2 i = y.2 i) (hM : Md z x) : Md z y := ⟨hM.1.trans h, fun i h0 h1 => (hM.2 i h0 (by omega)).trans (h' i h0 (by omega))⟩
theorem Rw_congr {z z' : Nat → Int → Int} {q : Int} {f : Int → Int} (h : z' 190 = z 190) (hR : Rw z q f) : Rw z' q f := by unfold Rw; rw [h]; exact hR
theorem m_makes {q c : Int} {f : Int → Int} (hq : 0 ≤ q) (hq' : q < 6) (hf : Rw z q f) (hP : PV f) (hc : 0 ≤ c) (hc' : c < 2147483648) : WP (f_X12_makes 189 (I3 q) (I3 c) (M p z l)) (fun μ => ∃ z', μ = M p z' l ∧ Md z' (frm f c) ∧ FrK z z') := by
  have hP' := hP
  obtain ⟨p0, p1, p2, p3, p4, p5, p6, p7⟩ := hP'
  have h1 := hf 1 (by omega) (by omega)
  have h2 := hf 2 (by omega) (by omega)
  have hx0 : Md (up z 189 12 0) (0, fun _ => 0) := ⟨by rw [up_same], fun i h0 h1 => by simp only at h1; omega⟩
  have hF0 : FrK z (up z 189 12 0) := ⟨fun k hk _ => up_row hk _ _ _, fun j hj => up_col hj _ _ _ _⟩
  unfold f_X12_makes
  simp (disch := first | assumption | omega) only [↓b_hid, bH_some, ↓hid_W, ↓W_ite, WI_t, WI_f, W_some, I3_a, I3_s, I3_m, I3_n, I3_l, I3_lt, I3_le, I3_e, I3_dv, I3_rm, I3_mx, I3_mn, I3_ab, cI, bI_0, bI_1, rZ_b, up_same, up_row, up_col, xr_some, LQ_r, LQ_l, Int.sub_self, Int.add_zero, Int.zero_add, Int.sub_zero, Int.neg_neg, not_true_eq_false, not_false_eq_true, Int.add_sub_cancel, gI_189, pI_189, iO_189, gR_189_0, aI_190, sI_190, gR_189_1, aI_191, sI_191, gR_189_3, aI_192, gR_189_10, aI_193, sI_193, gR_189_11, aI_194, sI_194, gR_189_13, aI_195, sI_195, gR_189_15, aI_196, sI_196, gR_189_17, aI_197, sI_197, gR_189_18, aI_198, sI_198, gR_189_19, aI_199, sI_199, gR_189_20, aI_200, sI_200, gR_189_23, aI_201, gR_189_24, aI_202, sI_202, gR_189_25, aI_203, sI_203, gR_189_29, aI_204, sI_204, gR_189_32, aI_205, sI_205, gR_189_35, aI_206, sI_206, pZ_189, gL_189, pL_189, m_at, h1]
  refine W_bH (W_imp (m_lays hx0 (by simp) (by simp) (Or.inr rfl)) ?_)
  rintro _ ⟨z1, rfl, a1, a2⟩
  have e1 : z1 190 = z 190 := by rw [a2.1 190 (by decide) (by decide), up_row (by decide)]
  rw [flay_put (by simp)] at a1
  simp (disch := first | assumption | omega) only [↓b_hid, bH_some, ↓hid_W, ↓W_ite, WI_t, WI_f, W_some, I3_a, I3_s, I3_m, I3_n, I3_l, I3_lt, I3_le, I3_e, I3_dv, I3_rm, I3_mx, I3_mn, I3_ab, cI, bI_0, bI_1, rZ_b, up_same, up_row, up_col, xr_some, LQ_r, LQ_l, Int.sub_self, Int.add_zero, Int.zero_add, Int.sub_zero, Int.neg_neg, not_true_eq_false, not_false_eq_true, Int.add_sub_cancel, gI_189, pI_189, iO_189, gR_189_0, aI_190, sI_190, gR_189_1, aI_191, sI_191, gR_189_3, aI_192, gR_189_10, aI_193, sI_193, gR_189_11, aI_194, sI_194, gR_189_13, aI_195, sI_195, gR_189_15, aI_196, sI_196, gR_189_17, aI_197, sI_197, gR_189_18, aI_198, sI_198, gR_189_19, aI_199, sI_199, gR_189_20, aI_200, sI_200, gR_189_23, aI_201, gR_189_24, aI_202, sI_202, gR_189_25, aI_203, sI_203, gR_189_29, aI_204, sI_204, gR_189_32, aI_205, sI_205, gR_189_35, aI_206, sI_206, pZ_189, gL_189, pL_189, e1, h2]
  refine W_bH (W_imp (m_lays a1 (by simp [fput]) (by simp [fput]) (Or.inl rfl)) ?_)
  rintro _ ⟨z2, rfl, b1, b2⟩
  rw [flay_put (by simp [fput])] at b1
  have hF2 : FrK z z2 := FrK_t (FrK_t hF0 a2) b2
  simp (disch := first | assumption | omega) only [↓b_hid, bH_some, ↓hid_W, ↓W_ite, WI_t, WI_f, W_some, I3_a, I3_s, I3_m, I3_n, I3_l, I3_lt, I3_le, I3_e, I3_dv, I3_rm, I3_mx, I3_mn, I3_ab, cI, bI_0, bI_1, rZ_b, up_same, up_row, up_col, xr_some, LQ_r, LQ_l, Int.sub_self, Int.add_zero, Int.zero_add, Int.sub_zero, Int.neg_neg, not_true_eq_false, not_false_eq_true, Int.add_sub_cancel]
  unfold f_X12_makes_39
  refine lp_W (fun n s => ∃ (k : Nat) (z' : Nat → Int → Int), s = (189, I3 q, I3 c, I3 (4 + 9 * q), I3 k, M p z' l) ∧ (k : Int) ≤ f 6 ∧ n = (f 6).toNat - k ∧ Md z' (mK f c k) ∧ FrK z z') (fun n s hs => ?_) ⟨0, z2, rfl, by omega, rfl, by unfold mK; rw [if_neg (by omega)]; exact b1, hF2⟩
  obtain ⟨k, z', rfl, hk, rfl, hx, hz⟩ := hs
  have e3 : z' 190 = z 190 := hz.1 190 (by decide) (by decide)
  have r := frK_r c hP k
  have h0 := hf 0 (by omega) (by omega)
  have h3 := hf 3 (by omega) (by omega)
  have h4 := hf 4 (by omega) (by omega)
  have h5 := hf 5 (by omega) (by omega)
  have h6 := hf 6 (by omega) (by omega)
  rw [Int.add_zero] at h0
  unfold f_X12_makes_39_b
  by_cases hk6 : (k : Int) < f 6
  · have hb := m_bit (p := p) (l := l) (k := k) hq hq' (Rw_congr e3 hf) hP hc hc' (by omega) hk6
    have hb01 := fbit_r f c k
    have done : ∀ (z1 : Nat → Int → Int) (x1 : Dn), Md z1 x1 → FrK z z1 → x1 = mK f c (k + 1) → WP (f_X12_makes_212 189 (I3 q) (I3 c) (I3 (4 + 9 * q)) (I3 k) (M p z1 l)) (LQ (fun μ => ∃ z', μ = M p z' l ∧ Md z' (frm f c) ∧ FrK z z') (fun n s => ∃ (k : Nat) (z' : Nat → Int → Int), s = (189, I3 q, I3 c, I3 (4 + 9 * q), I3 k, M p z' l) ∧ (k : Int) ≤ f 6 ∧ n = (f 6).toNat - k ∧ Md z' (mK f c k) ∧ FrK z z') ((f 6).toNat - k)) := by
      intro z1 x1 hx1 hz1 he
      unfold f_X12_makes_212
      simp (disch := first | assumption | omega) only [↓b_hid, bH_some, ↓hid_W, ↓W_ite, WI_t, WI_f, W_some, I3_a, I3_s, I3_m, I3_n, I3_l, I3_lt, I3_le, I3_e, I3_dv, I3_rm, I3_mx, I3_mn, I3_ab, cI, bI_0, bI_1, rZ_b, up_same, up_row, up_col, xr_some, LQ_r, LQ_l, Int.sub_self, Int.add_zero, Int.zero_add, Int.sub_zero, Int.neg_neg, not_true_eq_false, not_false_eq_true, Int.add_sub_cancel]
      exact ⟨_, by omega, k + 1, z1, by rw [Int.natCast_add]; rfl, by omega, rfl, by rw [← he]; exact hx1, hz1⟩
    simp (disch := first | assumption | omega) only [↓b_hid, bH_some, ↓hid_W, ↓W_ite, WI_t, WI_f, W_some, I3_a, I3_s, I3_m, I3_n, I3_l, I3_lt, I3_le, I3_e, I3_dv, I3_rm, I3_mx, I3_mn, I3_ab, cI, bI_0, bI_1, rZ_b, up_same, up_row, up_col, xr_some, LQ_r, LQ_l, Int.sub_self, Int.add_zero, Int.zero_add, Int.sub_zero, Int.neg_neg, not_true_eq_false, not_false_eq_true, Int.add_sub_cancel, gI_189, pI_189, iO_189, gR_189_0, aI_190, sI_190, gR_189_1, aI_191, sI_191, gR_189_3, aI_192, gR_189_10, aI_193, sI_193, gR_189_11, aI_194, sI_194, gR_189_13, aI_195, sI_195, gR_189_15, aI_196, sI_196, gR_189_17, aI_197, sI_197, gR_189_18, aI_198, sI_198, gR_189_19, aI_199, sI_199, gR_189_20, aI_200, sI_200, gR_189_23, aI_201, gR_189_24, aI_202, sI_202, gR_189_25, aI_203, sI_203, gR_189_29, aI_204, sI_204, gR_189_32, aI_205, sI_205, gR_189_35, aI_206, sI_206, pZ_189, gL_189, pL_189, e3, h6, hb, h0, WI_pos, WI_neg]
    refine WI_i (fun hk0 => ?_) (fun hk0 => ?_)
    · -- by distance
      have hn := r.2.2.2.2.1 hk0
      have hmk : mK f c k = frK f c k := by unfold mK; rw [if_neg (by omega)]
      have hmk1 : ∀ v, v = (if fbit f c k = 1 then f 5 else f 4) → fput v (fput (f 3) (frK f c k)) = mK f c (k + 1) := by
        intro v hv
        unfold mK; rw [if_neg (by omega), frK]
        unfold fstep; rw [if_neg (by omega), if_neg (by omega), hv]
      rw [hmk] at hx
      simp (disch := first | assumption | omega) only [↓b_hid, bH_some, ↓hid_W, ↓W_ite, WI_t, WI_f, W_some, I3_a, I3_s, I3_m, I3_n, I3_l, I3_lt, I3_le, I3_e, I3_dv, I3_rm, I3_mx, I3_mn, I3_ab, cI, bI_0, bI_1, rZ_b, up_same, up_row, up_col, xr_some, LQ_r, LQ_l, Int.sub_self, Int.add_zero, Int.zero_add, Int.sub_zero, Int.neg_neg, not_true_eq_false, not_false_eq_true, Int.add_sub_cancel, gI_189, pI_189, iO_189, gR_189_0, aI_190, sI_190, gR_189_1, aI_191, sI_191, gR_189_3, aI_192, gR_189_10, aI_193, sI_193, gR_189_11, aI_194, sI_194, gR_189_13, aI_195, sI_195, gR_189_15, aI_196, sI_196, gR_189_17, aI_197, sI_197, gR_189_18, aI_198, sI_198, gR_189_19, aI_199, sI_199, gR_189_20, aI_200, sI_200, gR_189_23, aI_201, gR_189_24, aI_202, sI_202, gR_189_25, aI_203, sI_203, gR_189_29, aI_204, sI_204, gR_189_32, aI_205, sI_205, gR_189_35, aI_206, sI_206, pZ_189, gL_189, pL_189, e3, h3]
      refine W_bH (W_imp (m_lays hx (by omega) (by omega) (Or.inr rfl)) ?_)
      rintro _ ⟨z4, rfl, c1, c2⟩
      rw [flay_put (by omega)] at c1
      have e4 : z4 190 = z 190 := (c2.1 190 (by decide) (by decide)).trans e3
      simp (disch := first | assumption | omega) only [↓b_hid, bH_some, ↓hid_W, ↓W_ite, WI_t, WI_f, W_some, I3_a, I3_s, I3_m, I3_n, I3_l, I3_lt, I3_le, I3_e, I3_dv, I3_rm, I3_mx, I3_mn, I3_ab, cI, bI_0, bI_1, rZ_b, up_same, up_row, up_col, xr_some, LQ_r, LQ_l, Int.sub_self, Int.add_zero, Int.zero_add, Int.sub_zero, Int.neg_neg, not_true_eq_false, not_false_eq_true, Int.add_sub_cancel]
      refine WI_i (fun hb0 => ?_) (fun hb0 => ?_)
      · simp (disch := first | assumption | omega) only [↓b_hid, bH_some, ↓hid_W, ↓W_ite, WI_t, WI_f, W_some, I3_a, I3_s, I3_m, I3_n, I3_l, I3_lt, I3_le, I3_e, I3_dv, I3_rm, I3_mx, I3_mn, I3_ab, cI, bI_0, bI_1, rZ_b, up_same, up_row, up_col, xr_some, LQ_r, LQ_l, Int.sub_self, Int.add_zero, Int.zero_add, Int.sub_zero, Int.neg_neg, not_true_eq_false, not_false_eq_true, Int.add_sub_cancel, gI_189, pI_189, iO_189, gR_189_0, aI_190, sI_190, gR_189_1, aI_191, sI_191, gR_189_3, aI_192, gR_189_10, aI_193, sI_193, gR_189_11, aI_194, sI_194, gR_189_13, aI_195, sI_195, gR_189_15, aI_196, sI_196, gR_189_17, aI_197, sI_197, gR_189_18, aI_198, sI_198, gR_189_19, aI_199, sI_199, gR_189_20, aI_200, sI_200, gR_189_23, aI_201, gR_189_24, aI_202, sI_202, gR_189_25, aI_203, sI_203, gR_189_29, aI_204, sI_204, gR_189_32, aI_205, sI_205, gR_189_35, aI_206, sI_206, pZ_189, gL_189, pL_189, e4, h4]
        unfold f_X12_makes_113
        simp (disch := first | assumption | omega) only [↓b_hid, bH_some, ↓hid_W, ↓W_ite, WI_t, WI_f, W_some, I3_a, I3_s, I3_m, I3_n, I3_l, I3_lt, I3_le, I3_e, I3_dv, I3_rm, I3_mx, I3_mn, I3_ab, cI, bI_0, bI_1, rZ_b, up_same, up_row, up_col, xr_some, LQ_r, LQ_l, Int.sub_self, Int.add_zero, Int.zero_add, Int.sub_zero, Int.neg_neg, not_true_eq_false, not_false_eq_true, Int.add_sub_cancel, gI_189, pI_189, iO_189, gR_189_0, aI_190, sI_190, gR_189_1, aI_191, sI_191, gR_189_3, aI_192, gR_189_10, aI_193, sI_193, gR_189_11, aI_194, sI_194, gR_189_13, aI_195, sI_195, gR_189_15, aI_196, sI_196, gR_189_17, aI_197, sI_197, gR_189_18, aI_198, sI_198, gR_189_19, aI_199, sI_199, gR_189_20, aI_200, sI_200, gR_189_23, aI_201, gR_189_24, aI_202, sI_202, gR_189_25, aI_203, sI_203, gR_189_29, aI_204, sI_204, gR_189_32, aI_205, sI_205, gR_189_35, aI_206, sI_206, pZ_189, gL_189, pL_189]
        refine W_bH (W_imp (m_lays c1 (by simp only [fput]; omega) (by simp only [fput]; omega) (Or.inl rfl)) ?_)
        rintro _ ⟨z5, rfl, d1, d2⟩
        rw [flay_put (by simp only [fput]; omega)] at d1
        exact done z5 _ d1 (FrK_t (FrK_t hz c2) d2) (hmk1 _ (by rw [if_neg (by omega)]))
      · simp (disch := first | assumption | omega) only [↓b_hid, bH_some, ↓hid_W, ↓W_ite, WI_t, WI_f, W_some, I3_a, I3_s, I3_m, I3_n, I3_l, I3_lt, I3_le, I3_e, I3_dv, I3_rm, I3_mx, I3_mn, I3_ab, cI, bI_0, bI_1, rZ_b, up_same, up_row, up_col, xr_some, LQ_r, LQ_l, Int.sub_self, Int.add_zero, Int.zero_add, Int.sub_zero, Int.neg_neg, not_true_eq_false, not_false_eq_true, Int.add_sub_cancel, gI_189, pI_189, iO_189, gR_189_0, aI_190, sI_190, gR_189_1, aI_191, sI_191, gR_189_3, aI_192, gR_189_10, aI_193, sI_193, gR_189_11, aI_194, sI_194, gR_189_13, aI_195, sI_195, gR_189_15, aI_196, sI_196, gR_189_17, aI_197, sI_197, gR_189_18, aI_198, sI_198, gR_189_19, aI_199, sI_199, gR_189_20, aI_200, sI_200, gR_189_23, aI_201, gR_189_24, aI_202, sI_202, gR_189_25, aI_203, sI_203, gR_189_29, aI_204, sI_204, gR_189_32, aI_205, sI_205, gR_189_35, aI_206, sI_206, pZ_189, gL_189, pL_189, e4, h5]
        unfold f_X12_makes_113
        simp (disch := first | assumption | omega) only [↓b_hid, bH_some, ↓hid_W, ↓W_ite, WI_t, WI_f, W_some, I3_a, I3_s, I3_m, I3_n, I3_l, I3_lt, I3_le, I3_e, I3_dv, I3_rm, I3_mx, I3_mn, I3_ab, cI, bI_0, bI_1, rZ_b, up_same, up_row, up_col, xr_some, LQ_r, LQ_l, Int.sub_self, Int.add_zero, Int.zero_add, Int.sub_zero, Int.neg_neg, not_true_eq_false, not_false_eq_true, Int.add_sub_cancel, gI_189, pI_189, iO_189, gR_189_0, aI_190, sI_190, gR_189_1, aI_191, sI_191, gR_189_3, aI_192, gR_189_10, aI_193, sI_193, gR_189_11, aI_194, sI_194, gR_189_13, aI_195, sI_195, gR_189_15, aI_196, sI_196, gR_189_17, aI_197, sI_197, gR_189_18, aI_198, sI_198, gR_189_19, aI_199, sI_199, gR_189_20, aI_200, sI_200, gR_189_23, aI_201, gR_189_24, aI_202, sI_202, gR_189_25, aI_203, sI_203, gR_189_29, aI_204, sI_204, gR_189_32, aI_205, sI_205, gR_189_35, aI_206, sI_206, pZ_189, gL_189, pL_189]
        refine W_bH (W_imp (m_lays c1 (by simp only [fput]; omega) (by simp only [fput]; omega) (Or.inl rfl)) ?_)
        rintro _ ⟨z5, rfl, d1, d2⟩
        rw [flay_put (by simp only [fput]; omega)] at d1
        exact done z5 _ d1 (FrK_t (FrK_t hz c2) d2) (hmk1 _ (by rw [if_pos (by omega)]))
    · simp (disch := first | assumption | omega) only [↓b_hid, bH_some, ↓hid_W, ↓W_ite, WI_t, WI_f, W_some, I3_a, I3_s, I3_m, I3_n, I3_l, I3_lt, I3_le, I3_e, I3_dv, I3_rm, I3_mx, I3_mn, I3_ab, cI, bI_0, bI_1, rZ_b, up_same, up_row, up_col, xr_some, LQ_r, LQ_l, Int.sub_self, Int.add_zero, Int.zero_add, Int.sub_zero, Int.neg_neg, not_true_eq_false, not_false_eq_true, Int.add_sub_cancel, gI_189, pI_189, iO_189, gR_189_0, aI_190, sI_190, gR_189_1, aI_191, sI_191, gR_189_3, aI_192, gR_189_10, aI_193, sI_193, gR_189_11, aI_194, sI_194, gR_189_13, aI_195, sI_195, gR_189_15, aI_196, sI_196, gR_189_17, aI_197, sI_197, gR_189_18, aI_198, sI_198, gR_189_19, aI_199, sI_199, gR_189_20, aI_200, sI_200, gR_189_23, aI_201, gR_189_24, aI_202, sI_202, gR_189_25, aI_203, sI_203, gR_189_29, aI_204, sI_204, gR_189_32, aI_205, sI_205, gR_189_35, aI_206, sI_206, pZ_189, gL_189, pL_189, e3, h0]
      refine WI_i (fun hk1 => ?_) (fun hk1 => ?_)
      · -- by width
        have hev : (mK f c k).1 % 2 = 0 ∧ 0 ≤ (mK f c k).1 ∧ (mK f c k).1 ≤ 2 + 2 * k := by
          unfold mK
          by_cases hkp : 0 < k
          · rw [if_pos ⟨hk1, hkp⟩]
            have := r.2.2.2.2.2.1 hk1 hkp
            simp only [fput]; omega
          · rw [if_neg (by omega)]
            have : k = 0 := by omega
            subst this
            simp [frK, fput]
        have hfk : ∀ v, v = (if fbit f c k = 1 then f 5 else f 4) → frK f c (k + 1) = fput v (mK f c k) := by
          intro v hv
          have e : (if (0 : Int) < k then fput (f 3) (frK f c k) else frK f c k) = mK f c k := by
            unfold mK
            by_cases hkp : 0 < k
            · rw [if_pos (show (0 : Int) < k by omega), if_pos ⟨hk1, hkp⟩]
            · rw [if_neg (show ¬(0 : Int) < k by omega), if_neg (show ¬(f 0 = 1 ∧ 0 < k) by omega)]
          rw [frK]; unfold fstep
          rw [if_neg (show ¬f 0 = 2 by omega), if_pos hk1, e, hv]
        have hmk1 : mK f c (k + 1) = fput (f 3) (frK f c (k + 1)) := by unfold mK; rw [if_pos ⟨hk1, by omega⟩]
        have fin : ∀ v, v = (if fbit f c k = 1 then f 5 else f 4) → WP (f_X12_makes_157 189 (I3 q) (I3 c) (I3 (4 + 9 * q)) (I3 k) (I3 v) (I3 1) 189 (M p z' l)) (LQ (fun μ => ∃ z', μ = M p z' l ∧ Md z' (frm f c) ∧ FrK z z') (fun n s => ∃ (k : Nat) (z' : Nat → Int → Int), s = (189, I3 q, I3 c, I3 (4 + 9 * q), I3 k, M p z' l) ∧ (k : Int) ≤ f 6 ∧ n = (f 6).toNat - k ∧ Md z' (mK f c k) ∧ FrK z z') ((f 6).toNat - k)) := by
          intro v hv
          unfold f_X12_makes_157
          simp (disch := first | assumption | omega) only [↓b_hid, bH_some, ↓hid_W, ↓W_ite, WI_t, WI_f, W_some, I3_a, I3_s, I3_m, I3_n, I3_l, I3_lt, I3_le, I3_e, I3_dv, I3_rm, I3_mx, I3_mn, I3_ab, cI, bI_0, bI_1, rZ_b, up_same, up_row, up_col, xr_some, LQ_r, LQ_l, Int.sub_self, Int.add_zero, Int.zero_add, Int.sub_zero, Int.neg_neg, not_true_eq_false, not_false_eq_true, Int.add_sub_cancel, gI_189, pI_189, iO_189, gR_189_0, aI_190, sI_190, gR_189_1, aI_191, sI_191, gR_189_3, aI_192, gR_189_10, aI_193, sI_193, gR_189_11, aI_194, sI_194, gR_189_13, aI_195, sI_195, gR_189_15, aI_196, sI_196, gR_189_17, aI_197, sI_197, gR_189_18, aI_198, sI_198, gR_189_19, aI_199, sI_199, gR_189_20, aI_200, sI_200, gR_189_23, aI_201, gR_189_24, aI_202, sI_202, gR_189_25, aI_203, sI_203, gR_189_29, aI_204, sI_204, gR_189_32, aI_205, sI_205, gR_189_35, aI_206, sI_206, pZ_189, gL_189, pL_189]
          refine W_bH (W_imp (m_lays hx (by omega) (by omega) (Or.inr rfl)) ?_)
          rintro _ ⟨z4, rfl, c1, c2⟩
          rw [flay_put (by omega)] at c1
          have e4 : z4 190 = z 190 := (c2.1 190 (by decide) (by decide)).trans e3
          simp (disch := first | assumption | omega) only [↓b_hid, bH_some, ↓hid_W, ↓W_ite, WI_t, WI_f, W_some, I3_a, I3_s, I3_m, I3_n, I3_l, I3_lt, I3_le, I3_e, I3_dv, I3_rm, I3_mx, I3_mn, I3_ab, cI, bI_0, bI_1, rZ_b, up_same, up_row, up_col, xr_some, LQ_r, LQ_l, Int.sub_self, Int.add_zero, Int.zero_add, Int.sub_zero, Int.neg_neg, not_true_eq_false, not_false_eq_true, Int.add_sub_cancel, gI_189, pI_189, iO_189, gR_189_0, aI_190, sI_190, gR_189_1, aI_191, sI_191, gR_189_3, aI_192, gR_189_10, aI_193, sI_193, gR_189_11, aI_194, sI_194, gR_189_13, aI_195, sI_195, gR_189_15, aI_196, sI_196, gR_189_17, aI_197, sI_197, gR_189_18, aI_198, sI_198, gR_189_19, aI_199, sI_199, gR_189_20, aI_200, sI_200, gR_189_23, aI_201, gR_189_24, aI_202, sI_202, gR_189_25, aI_203, sI_203, gR_189_29, aI_204, sI_204, gR_189_32, aI_205, sI_205, gR_189_35, aI_206, sI_206, pZ_189, gL_189, pL_189, e4, h3]
          refine W_bH (W_imp (m_lays c1 (by simp only [fput]; omega) (by simp only [fput]; omega) (Or.inl rfl)) ?_)
          rintro _ ⟨z5, rfl, d1, d2⟩
          rw [flay_put (by simp only [fput]; omega)] at d1
          exact done z5 _ d1 (FrK_t (FrK_t hz c2) d2) (by rw [hmk1, hfk v hv])
        simp (disch := first | assumption | omega) only [↓b_hid, bH_some, ↓hid_W, ↓W_ite, WI_t, WI_f, W_some, I3_a, I3_s, I3_m, I3_n, I3_l, I3_lt, I3_le, I3_e, I3_dv, I3_rm, I3_mx, I3_mn, I3_ab, cI, bI_0, bI_1, rZ_b, up_same, up_row, up_col, xr_some, LQ_r, LQ_l, Int.sub_self, Int.add_zero, Int.zero_add, Int.sub_zero, Int.neg_neg, not_true_eq_false, not_false_eq_true, Int.add_sub_cancel]
        refine WI_i (fun hb0 => ?_) (fun hb0 => ?_)
        · simp (disch := first | assumption | omega) only [↓b_hid, bH_some, ↓hid_W, ↓W_ite, WI_t, WI_f, W_some, I3_a, I3_s, I3_m, I3_n, I3_l, I3_lt, I3_le, I3_e, I3_dv, I3_rm, I3_mx, I3_mn, I3_ab, cI, bI_0, bI_1, rZ_b, up_same, up_row, up_col, xr_some, LQ_r, LQ_l, Int.sub_self, Int.add_zero, Int.zero_add, Int.sub_zero, Int.neg_neg, not_true_eq_false, not_false_eq_true, Int.add_sub_cancel, gI_189, pI_189, iO_189, gR_189_0, aI_190, sI_190, gR_189_1, aI_191, sI_191, gR_189_3, aI_192, gR_189_10, aI_193, sI_193, gR_189_11, aI_194, sI_194, gR_189_13, aI_195, sI_195, gR_189_15, aI_196, sI_196, gR_189_17, aI_197, sI_197, gR_189_18, aI_198, sI_198, gR_189_19, aI_199, sI_199, gR_189_20, aI_200, sI_200, gR_189_23, aI_201, gR_189_24, aI_202, sI_202, gR_189_25, aI_203, sI_203, gR_189_29, aI_204, sI_204, gR_189_32, aI_205, sI_205, gR_189_35, aI_206, sI_206, pZ_189, gL_189, pL_189, e3, h4]; exact fin _ (by rw [if_neg (by omega)])
        · simp (disch := first | assumption | omega) only [↓b_hid, bH_some, ↓hid_W, ↓W_ite, WI_t, WI_f, W_some, I3_a, I3_s, I3_m, I3_n, I3_l, I3_lt, I3_le, I3_e, I3_dv, I3_rm, I3_mx, I3_mn, I3_ab, cI, bI_0, bI_1, rZ_b, up_same, up_row, up_col, xr_some, LQ_r, LQ_l, Int.sub_self, Int.add_zero, Int.zero_add, Int.sub_zero, Int.neg_neg, not_true_eq_false, not_false_eq_true, Int.add_sub_cancel, gI_189, pI_189, iO_189, gR_189_0, aI_190, sI_190, gR_189_1, aI_191, sI_191, gR_189_3, aI_192, gR_189_10, aI_193, sI_193, gR_189_11, aI_194, sI_194, gR_189_13, aI_195, sI_195, gR_189_15, aI_196, sI_196, gR_189_17, aI_197, sI_197, gR_189_18, aI_198, sI_198, gR_189_19, aI_199, sI_199, gR_189_20, aI_200, sI_200, gR_189_23, aI_201, gR_189_24, aI_202, sI_202, gR_189_25, aI_203, sI_203, gR_189_29, aI_204, sI_204, gR_189_32, aI_205, sI_205, gR_189_35, aI_206, sI_206, pZ_189, gL_189, pL_189, e3, h5]; exact fin _ (by rw [if_pos (by omega)])
      · -- by phase
        have hk2 : f 0 = 2 := by omega
        have hmk : mK f c k = frK f c k := by unfold mK; rw [if_neg (by omega)]
        have hmk1 : flay (1 - fbit f c k) (f 3) (flay (fbit f c k) (f 3) (frK f c k)) = mK f c (k + 1) := by
          unfold mK; rw [if_neg (by omega), frK]; unfold fstep; rw [if_pos hk2]
        have hl : (flay (fbit f c k) (f 3) (frK f c k)).1 ≤ (frK f c k).1 + 1 ∧ (frK f c k).1 ≤ (flay (fbit f c k) (f 3) (frK f c k)).1 := by unfold flay fput; split <;> simp only <;> omega
        rw [hmk] at hx
        simp (disch := first | assumption | omega) only [↓b_hid, bH_some, ↓hid_W, ↓W_ite, WI_t, WI_f, W_some, I3_a, I3_s, I3_m, I3_n, I3_l, I3_lt, I3_le, I3_e, I3_dv, I3_rm, I3_mx, I3_mn, I3_ab, cI, bI_0, bI_1, rZ_b, up_same, up_row, up_col, xr_some, LQ_r, LQ_l, Int.sub_self, Int.add_zero, Int.zero_add, Int.sub_zero, Int.neg_neg, not_true_eq_false, not_false_eq_true, Int.add_sub_cancel, gI_189, pI_189, iO_189, gR_189_0, aI_190, sI_190, gR_189_1, aI_191, sI_191, gR_189_3, aI_192, gR_189_10, aI_193, sI_193, gR_189_11, aI_194, sI_194, gR_189_13, aI_195, sI_195, gR_189_15, aI_196, sI_196, gR_189_17, aI_197, sI_197, gR_189_18, aI_198, sI_198, gR_189_19, aI_199, sI_199, gR_189_20, aI_200, sI_200, gR_189_23, aI_201, gR_189_24, aI_202, sI_202, gR_189_25, aI_203, sI_203, gR_189_29, aI_204, sI_204, gR_189_32, aI_205, sI_205, gR_189_35, aI_206, sI_206, pZ_189, gL_189, pL_189, e3, h3]
        refine W_bH (W_imp (m_lays hx (by omega) (by omega) hb01) ?_)
        rintro _ ⟨z4, rfl, c1, c2⟩
        have e4 : z4 190 = z 190 := (c2.1 190 (by decide) (by decide)).trans e3
        have fin : ∀ v : Int, v = 1 - fbit f c k → WP (f_X12_makes_201 189 (I3 q) (I3 c) (I3 (4 + 9 * q)) (I3 k) (I3 v) 189 (M p z4 l)) (LQ (fun μ => ∃ z', μ = M p z' l ∧ Md z' (frm f c) ∧ FrK z z') (fun n s => ∃ (k : Nat) (z' : Nat → Int → Int), s = (189, I3 q, I3 c, I3 (4 + 9 * q), I3 k, M p z' l) ∧ (k : Int) ≤ f 6 ∧ n = (f 6).toNat - k ∧ Md z' (mK f c k) ∧ FrK z z') ((f 6).toNat - k)) := by
          intro v hv
          unfold f_X12_makes_201
          simp (disch := first | assumption | omega) only [↓b_hid, bH_some, ↓hid_W, ↓W_ite, WI_t, WI_f, W_some, I3_a, I3_s, I3_m, I3_n, I3_l, I3_lt, I3_le, I3_e, I3_dv, I3_rm, I3_mx, I3_mn, I3_ab, cI, bI_0, bI_1, rZ_b, up_same, up_row, up_col, xr_some, LQ_r, LQ_l, Int.sub_self, Int.add_zero, Int.zero_add, Int.sub_zero, Int.neg_neg, not_true_eq_false, not_false_eq_true, Int.add_sub_cancel, gI_189, pI_189, iO_189, gR_189_0, aI_190, sI_190, gR_189_1, aI_191, sI_191, gR_189_3, aI_192, gR_189_10, aI_193, sI_193, gR_189_11, aI_194, sI_194, gR_189_13, aI_195, sI_195, gR_189_15, aI_196, sI_196, gR_189_17, aI_197, sI_197, gR_189_18, aI_198, sI_198, gR_189_19, aI_199, sI_199, gR_189_20, aI_200, sI_200, gR_189_23, aI_201, gR_189_24, aI_202, sI_202, gR_189_25, aI_203, sI_203, gR_189_29, aI_204, sI_204, gR_189_32, aI_205, sI_205, gR_189_35, aI_206, sI_206, pZ_189, gL_189, pL_189, e4, h3]
          refine W_bH (W_imp (m_lays c1 (by omega) (by omega) (by omega)) ?_)
          rintro _ ⟨z5, rfl, d1, d2⟩
          rw [hv] at d1
          exact done z5 _ d1 (FrK_t (FrK_t hz c2) d2) hmk1
        simp (disch := first | assumption | omega) only [↓b_hid, bH_some, ↓hid_W, ↓W_ite, WI_t, WI_f, W_some, I3_a, I3_s, I3_m, I3_n, I3_l, I3_lt, I3_le, I3_e, I3_dv, I3_rm, I3_mx, I3_mn, I3_ab, cI, bI_0, bI_1, rZ_b, up_same, up_row, up_col, xr_some, LQ_r, LQ_l, Int.sub_self, Int.add_zero, Int.zero_add, Int.sub_zero, Int.neg_neg, not_true_eq_false, not_false_eq_true, Int.add_sub_cancel]
        refine WI_i (fun hb0 => ?_) (fun hb0 => ?_)
        · simp (disch := first | assumption | omega) only [↓b_hid, bH_some, ↓hid_W, ↓W_ite, WI_t, WI_f, W_some, I3_a, I3_s, I3_m, I3_n, I3_l, I3_lt, I3_le, I3_e, I3_dv, I3_rm, I3_mx, I3_mn, I3_ab, cI, bI_0, bI_1, rZ_b, up_same, up_row, up_col, xr_some, LQ_r, LQ_l, Int.sub_self, Int.add_zero, Int.zero_add, Int.sub_zero, Int.neg_neg, not_true_eq_false, not_false_eq_true, Int.add_sub_cancel]; exact fin 1 (by omega)
        · simp (disch := first | assumption | omega) only [↓b_hid, bH_some, ↓hid_W, ↓W_ite, WI_t, WI_f, W_some, I3_a, I3_s, I3_m, I3_n, I3_l, I3_lt, I3_le, I3_e, I3_dv, I3_rm, I3_mx, I3_mn, I3_ab, cI, bI_0, bI_1, rZ_b, up_same, up_row, up_col, xr_some, LQ_r, LQ_l, Int.sub_self, Int.add_zero, Int.zero_add, Int.sub_zero, Int.neg_neg, not_true_eq_false, not_false_eq_true, Int.add_sub_cancel]; exact fin 0 (by omega)
  · have ek : k = (f 6).toNat := by omega
    have fin : ∀ (z1 : Nat → Int → Int) (x1 : Dn), Md z1 x1 → FrK z z1 → 1 ≤ x1.1 → x1.1 ≤ 80 → WP (f_X12_makes_242 189 (M p z1 l)) (fun μ => ∃ z', μ = M p z' l ∧ Md z' (fcut x1) ∧ FrK z z') := by
      intro z1 x1 hx1 hz1 hp1 hp2
      obtain ⟨m1, m2⟩ := hx1
      have hk : f_X12_isMark 189 (M p z1 l) = some (I3 (x1.1 % 2), M p z1 l) := by
        apply W_eq; unfold f_X12_isMark; simp (disch := first | assumption | omega) only [↓b_hid, bH_some, ↓hid_W, ↓W_ite, WI_t, WI_f, W_some, I3_a, I3_s, I3_m, I3_n, I3_l, I3_lt, I3_le, I3_e, I3_dv, I3_rm, I3_mx, I3_mn, I3_ab, cI, bI_0, bI_1, rZ_b, up_same, up_row, up_col, xr_some, LQ_r, LQ_l, Int.sub_self, Int.add_zero, Int.zero_add, Int.sub_zero, Int.neg_neg, not_true_eq_false, not_false_eq_true, Int.add_sub_cancel, gI_189, pI_189, iO_189, gR_189_0, aI_190, sI_190, gR_189_1, aI_191, sI_191, gR_189_3, aI_192, gR_189_10, aI_193, sI_193, gR_189_11, aI_194, sI_194, gR_189_13, aI_195, sI_195, gR_189_15, aI_196, sI_196, gR_189_17, aI_197, sI_197, gR_189_18, aI_198, sI_198, gR_189_19, aI_199, sI_199, gR_189_20, aI_200, sI_200, gR_189_23, aI_201, gR_189_24, aI_202, sI_202, gR_189_25, aI_203, sI_203, gR_189_29, aI_204, sI_204, gR_189_32, aI_205, sI_205, gR_189_35, aI_206, sI_206, pZ_189, gL_189, pL_189, m1]
        refine WI_i (fun h => ?_) (fun h => ?_)
        · simp (disch := first | assumption | omega) only [↓b_hid, bH_some, ↓hid_W, ↓W_ite, WI_t, WI_f, W_some, I3_a, I3_s, I3_m, I3_n, I3_l, I3_lt, I3_le, I3_e, I3_dv, I3_rm, I3_mx, I3_mn, I3_ab, cI, bI_0, bI_1, rZ_b, up_same, up_row, up_col, xr_some, LQ_r, LQ_l, Int.sub_self, Int.add_zero, Int.zero_add, Int.sub_zero, Int.neg_neg, not_true_eq_false, not_false_eq_true, Int.add_sub_cancel]; rw [h]
        · simp (disch := first | assumption | omega) only [↓b_hid, bH_some, ↓hid_W, ↓W_ite, WI_t, WI_f, W_some, I3_a, I3_s, I3_m, I3_n, I3_l, I3_lt, I3_le, I3_e, I3_dv, I3_rm, I3_mx, I3_mn, I3_ab, cI, bI_0, bI_1, rZ_b, up_same, up_row, up_col, xr_some, LQ_r, LQ_l, Int.sub_self, Int.add_zero, Int.zero_add, Int.sub_zero, Int.neg_neg, not_true_eq_false, not_false_eq_true, Int.add_sub_cancel]; rw [show x1.1 % 2 = 0 by omega]
      unfold f_X12_makes_242 fcut
      simp (disch := first | assumption | omega) only [↓b_hid, bH_some, ↓hid_W, ↓W_ite, WI_t, WI_f, W_some, I3_a, I3_s, I3_m, I3_n, I3_l, I3_lt, I3_le, I3_e, I3_dv, I3_rm, I3_mx, I3_mn, I3_ab, cI, bI_0, bI_1, rZ_b, up_same, up_row, up_col, xr_some, LQ_r, LQ_l, Int.sub_self, Int.add_zero, Int.zero_add, Int.sub_zero, Int.neg_neg, not_true_eq_false, not_false_eq_true, Int.add_sub_cancel, gI_189, pI_189, iO_189, gR_189_0, aI_190, sI_190, gR_189_1, aI_191, sI_191, gR_189_3, aI_192, gR_189_10, aI_193, sI_193, gR_189_11, aI_194, sI_194, gR_189_13, aI_195, sI_195, gR_189_15, aI_196, sI_196, gR_189_17, aI_197, sI_197, gR_189_18, aI_198, sI_198, gR_189_19, aI_199, sI_199, gR_189_20, aI_200, sI_200, gR_189_23, aI_201, gR_189_24, aI_202, sI_202, gR_189_25, aI_203, sI_203, gR_189_29, aI_204, sI_204, gR_189_32, aI_205, sI_205, gR_189_35, aI_206, sI_206, pZ_189, gL_189, pL_189, m1, hk]
      refine WI_i (fun h => ?_) (fun h => ?_)
      · rw [if_neg (by omega)]
        unfold f_X12_makes_259
        simp (disch := first | assumption | omega) only [↓b_hid, bH_some, ↓hid_W, ↓W_ite, WI_t, WI_f, W_some, I3_a, I3_s, I3_m, I3_n, I3_l, I3_lt, I3_le, I3_e, I3_dv, I3_rm, I3_mx, I3_mn, I3_ab, cI, bI_0, bI_1, rZ_b, up_same, up_row, up_col, xr_some, LQ_r, LQ_l, Int.sub_self, Int.add_zero, Int.zero_add, Int.sub_zero, Int.neg_neg, not_true_eq_false, not_false_eq_true, Int.add_sub_cancel, gI_189, pI_189, iO_189, gR_189_0, aI_190, sI_190, gR_189_1, aI_191, sI_191, gR_189_3, aI_192, gR_189_10, aI_193, sI_193, gR_189_11, aI_194, sI_194, gR_189_13, aI_195, sI_195, gR_189_15, aI_196, sI_196, gR_189_17, aI_197, sI_197, gR_189_18, aI_198, sI_198, gR_189_19, aI_199, sI_199, gR_189_20, aI_200, sI_200, gR_189_23, aI_201, gR_189_24, aI_202, sI_202, gR_189_25, aI_203, sI_203, gR_189_29, aI_204, sI_204, gR_189_32, aI_205, sI_205, gR_189_35, aI_206, sI_206, pZ_189, gL_189, pL_189]
        refine ⟨_, rfl, ⟨by rw [up_same], fun i h0 h1 => ?_⟩, ?_, ?_⟩
        · rw [up_row (by decide)]; exact m2 i h0 (by simp only at h1; omega)
        · intro k hk _; rw [up_row hk]; exact hz1.1 k hk (by assumption)
        · intro j hj; rw [up_col hj]; exact hz1.2 j hj
      · rw [if_pos (by omega)]
        unfold f_X12_makes_259
        simp (disch := first | assumption | omega) only [↓b_hid, bH_some, ↓hid_W, ↓W_ite, WI_t, WI_f, W_some, I3_a, I3_s, I3_m, I3_n, I3_l, I3_lt, I3_le, I3_e, I3_dv, I3_rm, I3_mx, I3_mn, I3_ab, cI, bI_0, bI_1, rZ_b, up_same, up_row, up_col, xr_some, LQ_r, LQ_l, Int.sub_self, Int.add_zero, Int.zero_add, Int.sub_zero, Int.neg_neg, not_true_eq_false, not_false_eq_true, Int.add_sub_cancel, gI_189, pI_189, iO_189, gR_189_0, aI_190, sI_190, gR_189_1, aI_191, sI_191, gR_189_3, aI_192, gR_189_10, aI_193, sI_193, gR_189_11, aI_194, sI_194, gR_189_13, aI_195, sI_195, gR_189_15, aI_196, sI_196, gR_189_17, aI_197, sI_197, gR_189_18, aI_198, sI_198, gR_189_19, aI_199, sI_199, gR_189_20, aI_200, sI_200, gR_189_23, aI_201, gR_189_24, aI_202, sI_202, gR_189_25, aI_203, sI_203, gR_189_29, aI_204, sI_204, gR_189_32, aI_205, sI_205, gR_189_35, aI_206, sI_206, pZ_189, gL_189, pL_189]
        refine ⟨_, rfl, ⟨by rw [up_same], fun i h0 h1 => ?_⟩, ?_, ?_⟩
        · rw [up_row (by decide)]; exact m2 i h0 h1
        · intro k hk _; rw [up_row hk]; exact hz1.1 k hk (by assumption)
        · intro j hj; rw [up_col hj]; exact hz1.2 j hj
    simp (disch := first | assumption | omega) only [↓b_hid, bH_some, ↓hid_W, ↓W_ite, WI_t, WI_f, W_some, I3_a, I3_s, I3_m, I3_n, I3_l, I3_lt, I3_le, I3_e, I3_dv, I3_rm, I3_mx, I3_mn, I3_ab, cI, bI_0, bI_1, rZ_b, up_same, up_row, up_col, xr_some, LQ_r, LQ_l, Int.sub_self, Int.add_zero, Int.zero_add, Int.sub_zero, Int.neg_neg, not_true_eq_false, not_false_eq_true, Int.add_sub_cancel, gI_189, pI_189, iO_189, gR_189_0, aI_190, sI_190, gR_189_1, aI_191, sI_191, gR_189_3, aI_192, gR_189_10, aI_193, sI_193, gR_189_11, aI_194, sI_194, gR_189_13, aI_195, sI_195, gR_189_15, aI_196, sI_196, gR_189_17, aI_197, sI_197, gR_189_18, aI_198, sI_198, gR_189_19, aI_199, sI_199, gR_189_20, aI_200, sI_200, gR_189_23, aI_201, gR_189_24, aI_202, sI_202, gR_189_25, aI_203, sI_203, gR_189_29, aI_204, sI_204, gR_189_32, aI_205, sI_205, gR_189_35, aI_206, sI_206, pZ_189, gL_189, pL_189, e3, h6, WI_pos, WI_neg]
    refine W_xr ?_
    unfold f_X12_makes_218
    simp only [LQ_r]
    simp (disch := first | assumption | omega) only [↓b_hid, bH_some, ↓hid_W, ↓W_ite, WI_t, WI_f, W_some, I3_a, I3_s, I3_m, I3_n, I3_l, I3_lt, I3_le, I3_e, I3_dv, I3_rm, I3_mx, I3_mn, I3_ab, cI, bI_0, bI_1, rZ_b, up_same, up_row, up_col, xr_some, LQ_r, LQ_l, Int.sub_self, Int.add_zero, Int.zero_add, Int.sub_zero, Int.neg_neg, not_true_eq_false, not_false_eq_true, Int.add_sub_cancel, gI_189, pI_189, iO_189, gR_189_0, aI_190, sI_190, gR_189_1, aI_191, sI_191, gR_189_3, aI_192, gR_189_10, aI_193, sI_193, gR_189_11, aI_194, sI_194, gR_189_13, aI_195, sI_195, gR_189_15, aI_196, sI_196, gR_189_17, aI_197, sI_197, gR_189_18, aI_198, sI_198, gR_189_19, aI_199, sI_199, gR_189_20, aI_200, sI_200, gR_189_23, aI_201, gR_189_24, aI_202, sI_202, gR_189_25, aI_203, sI_203, gR_189_29, aI_204, sI_204, gR_189_32, aI_205, sI_205, gR_189_35, aI_206, sI_206, pZ_189, gL_189, pL_189, e3, h0]
    have hk3 := r.2.2.2.2.2.2 (by omega)
    refine WI_i (fun hk0 => ?_) (fun hk0 => ?_)
    · have hmk : mK f c k = frK f c k := by unfold mK; rw [if_neg (by omega)]
      have hn := r.2.2.2.2.1 hk0
      rw [hmk] at hx
      simp (disch := first | assumption | omega) only [↓b_hid, bH_some, ↓hid_W, ↓W_ite, WI_t, WI_f, W_some, I3_a, I3_s, I3_m, I3_n, I3_l, I3_lt, I3_le, I3_e, I3_dv, I3_rm, I3_mx, I3_mn, I3_ab, cI, bI_0, bI_1, rZ_b, up_same, up_row, up_col, xr_some, LQ_r, LQ_l, Int.sub_self, Int.add_zero, Int.zero_add, Int.sub_zero, Int.neg_neg, not_true_eq_false, not_false_eq_true, Int.add_sub_cancel, gI_189, pI_189, iO_189, gR_189_0, aI_190, sI_190, gR_189_1, aI_191, sI_191, gR_189_3, aI_192, gR_189_10, aI_193, sI_193, gR_189_11, aI_194, sI_194, gR_189_13, aI_195, sI_195, gR_189_15, aI_196, sI_196, gR_189_17, aI_197, sI_197, gR_189_18, aI_198, sI_198, gR_189_19, aI_199, sI_199, gR_189_20, aI_200, sI_200, gR_189_23, aI_201, gR_189_24, aI_202, sI_202, gR_189_25, aI_203, sI_203, gR_189_29, aI_204, sI_204, gR_189_32, aI_205, sI_205, gR_189_35, aI_206, sI_206, pZ_189, gL_189, pL_189, e3, h3]
      refine W_bH (W_imp (m_lays hx (by omega) (by omega) (Or.inr rfl)) ?_)
      rintro _ ⟨z4, rfl, c1, c2⟩
      rw [flay_put (by omega)] at c1
      refine W_imp (fin z4 _ c1 (FrK_t hz c2) (by simp only [fput]; omega) (by simp only [fput]; omega)) ?_
      rintro _ ⟨z5, rfl, d1, d2⟩
      refine ⟨z5, rfl, ?_, d2⟩
      unfold frm; rw [if_pos hk0, ← ek]; exact d1
    · have hmn : (mK f c k).1 ≤ 80 ∧ 1 ≤ (mK f c k).1 := by unfold mK; split <;> (try simp only [fput]) <;> omega
      simp (disch := first | assumption | omega) only [↓b_hid, bH_some, ↓hid_W, ↓W_ite, WI_t, WI_f, W_some, I3_a, I3_s, I3_m, I3_n, I3_l, I3_lt, I3_le, I3_e, I3_dv, I3_rm, I3_mx, I3_mn, I3_ab, cI, bI_0, bI_1, rZ_b, up_same, up_row, up_col, xr_some, LQ_r, LQ_l, Int.sub_self, Int.add_zero, Int.zero_add, Int.sub_zero, Int.neg_neg, not_true_eq_false, not_false_eq_true, Int.add_sub_cancel]
      refine W_imp (fin z' _ hx hz (by omega) (by omega)) ?_
      rintro _ ⟨z5, rfl, d1, d2⟩
      refine ⟨z5, rfl, ?_, d2⟩
      unfold frm; rw [if_neg hk0, ← ek]
      by_cases hk1 : f 0 = 1
      · have hn := r.2.2.2.2.2.1 hk1 (by omega)
        unfold mK at d1; rw [if_pos ⟨hk1, by omega⟩] at d1
        refine Md_congr ?_ ?_ d1
        · unfold fcut; rw [if_neg (by simp only [fput]; omega), if_pos (by omega)]; simp only [fput]; omega
        · intro i h0 h1
          unfold fcut at h1 ⊢
          rw [if_neg (by simp only [fput]; omega)] at h1 ⊢
          rw [if_pos (by omega)]
          simp only [fput] at h1 ⊢
          rw [if_neg (by omega)]
      · unfold mK at d1; rw [if_neg (by omega)] at d1; exact d1
theorem m_makesShort {q : Int} {f : Int → Int} (hq : 0 ≤ q) (hq' : q < 6) (hf : Rw z q f) (hP : PV f) : WP (f_X12_makesShort 189 (I3 q) (M p z l)) (fun μ => ∃ z', μ = M p z' l ∧ Md z' (frs f) ∧ FrK z z') := by
  obtain ⟨p0, p1, p2, p3, p4, p5, p6, p7⟩ := hP
  have h1 := hf 1 (by omega) (by omega)
  have h2 := hf 2 (by omega) (by omega)
  have h3 := hf 3 (by omega) (by omega)
  unfold f_X12_makesShort
  simp (disch := first | assumption | omega) only [↓b_hid, bH_some, ↓hid_W, ↓W_ite, WI_t, WI_f, W_some, I3_a, I3_s, I3_m, I3_n, I3_l, I3_lt, I3_le, I3_e, I3_dv, I3_rm, I3_mx, I3_mn, I3_ab, cI, bI_0, bI_1, rZ_b, up_same, up_row, up_col, xr_some, LQ_r, LQ_l, Int.sub_self, Int.add_zero, Int.zero_add, Int.sub_zero, Int.neg_neg, not_true_eq_false, not_false_eq_true, Int.add_sub_cancel, gI_189, pI_189, iO_189, gR_189_0, aI_190, sI_190, gR_189_1, aI_191, sI_191, gR_189_3, aI_192, gR_189_10, aI_193, sI_193, gR_189_11, aI_194, sI_194, gR_189_13, aI_195, sI_195, gR_189_15, aI_196, sI_196, gR_189_17, aI_197, sI_197, gR_189_18, aI_198, sI_198, gR_189_19, aI_199, sI_199, gR_189_20, aI_200, sI_200, gR_189_23, aI_201, gR_189_24, aI_202, sI_202, gR_189_25, aI_203, sI_203, gR_189_29, aI_204, sI_204, gR_189_32, aI_205, sI_205, gR_189_35, aI_206, sI_206, pZ_189, gL_189, pL_189, m_at, h1, h2, h3]
  refine ⟨_, rfl, ⟨by rw [up_same]; rfl, ?_⟩, ?_, ?_⟩
  · intro i hi hi'
    simp only [frs, fput] at hi' ⊢
    rw [up_row (by decide)]
    have : i = 0 ∨ i = 1 ∨ i = 2 := by omega
    rcases this with rfl | rfl | rfl
    · rw [up_col (by decide), up_col (by decide), up_same]; rfl
    · rw [up_col (by decide), up_same]; rfl
    · rw [up_same]; rfl
  · intro k hk hk'; rw [up_row hk, up_row hk', up_row hk', up_row hk']
  · intro j hj; rw [up_col hj, up_row (by decide), up_row (by decide), up_row (by decide)]
end
