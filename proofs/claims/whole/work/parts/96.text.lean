/-! count(), clearText(), appendCharacter(): both sides. -/
theorem j_count (a : Int32) : JT (f_X11_count 0 a) (f_X12_count 189 a) := by
  obtain ⟨w, hw, rfl⟩ := i3x a
  intro p z l hJ
  obtain ⟨T, n, hp, hV, hS, hn, h2, hH, hC, hM, hT⟩ := id hJ
  have hb := hp.1 0 (by omega)
  have hTb := isTb_B hb
  have e0 : z (p 0 + 1) 1 = z 190 3 := hS.2.1.1
  have e1 : z (p 0 + 1) 4 = z 190 58 := hS.2.1.2.1
  have e2 : z 20 1 = T.1 := hC.1
  have e2' : z 189 4 = T.1 := hM.1
  have e3 : z 0 2 = n := hH.1
  unfold f_X11_count f_X12_count
  by_cases w0 : w = 0
  · simp (disch := first | assumption | omega) only [↓b_hid, bH_some, ↓hid_W, W_some, I3_a, I3_s, I3_m, I3_n, I3_l, I3_lt, I3_le, I3_e, I3_dv, I3_rm, I3_mx, I3_mn, I3_ab, cI, bI_0, bI_1, rZ_b, up_same, up_row, up_col, xr_some, LQ_r, LQ_l, Int.sub_self, Int.add_zero, Int.zero_add, Int.sub_zero, Int.neg_neg, not_true_eq_false, not_false_eq_true, Int.add_sub_cancel, ↓ite_iH, iH_t, iH_f, bH_iH, ↓bH_bind, xr_iH, ↓xr_bind, W_iH, WI_t, WI_f, aR_34, aR_19, sR_19, gR_0_0, pR_0, gI_0, pI_0, iO_0, gR_0_1, gR_0_3, gR_0_4, gR_0_5, gR_0_6, gR_0_7, gR_0_8, gR_0_9, gR_0_10, gR_0_11, gI_B, pI_B, iO_B, gR_B0, gR_B1, aR_B, gI_Tb, e0, iH_pos, iH_neg, WI_pos, WI_neg]
    refine ⟨⟨_, _, _, rfl⟩, ?_⟩
    simp (disch := first | assumption | omega) only [↓b_hid, bH_some, ↓hid_W, W_some, I3_a, I3_s, I3_m, I3_n, I3_l, I3_lt, I3_le, I3_e, I3_dv, I3_rm, I3_mx, I3_mn, I3_ab, cI, bI_0, bI_1, rZ_b, up_same, up_row, up_col, xr_some, LQ_r, LQ_l, Int.sub_self, Int.add_zero, Int.zero_add, Int.sub_zero, Int.neg_neg, not_true_eq_false, not_false_eq_true, Int.add_sub_cancel, ↓ite_iH, iH_t, iH_f, bH_iH, ↓bH_bind, xr_iH, ↓xr_bind, W_iH, WI_t, WI_f, gI_189, pI_189, iO_189, gR_189_0, aI_190, sI_190, gR_189_1, aI_191, sI_191, gR_189_3, aI_192, gR_189_10, aI_193, sI_193, gR_189_11, aI_194, sI_194, gR_189_13, aI_195, sI_195, gR_189_15, aI_196, sI_196, gR_189_17, aI_197, sI_197, gR_189_18, aI_198, sI_198, gR_189_19, aI_199, sI_199, gR_189_20, aI_200, sI_200, gR_189_23, aI_201, gR_189_24, aI_202, sI_202, gR_189_25, aI_203, sI_203, gR_189_29, aI_204, sI_204, gR_189_32, aI_205, sI_205, gR_189_35, aI_206, sI_206, pZ_189, gL_189, pL_189, iH_pos, iH_neg, WI_pos, WI_neg]
    exact ⟨trivial, p, z, l, rfl, hJ⟩
  by_cases w1 : w = 1
  · simp (disch := first | assumption | omega) only [↓b_hid, bH_some, ↓hid_W, W_some, I3_a, I3_s, I3_m, I3_n, I3_l, I3_lt, I3_le, I3_e, I3_dv, I3_rm, I3_mx, I3_mn, I3_ab, cI, bI_0, bI_1, rZ_b, up_same, up_row, up_col, xr_some, LQ_r, LQ_l, Int.sub_self, Int.add_zero, Int.zero_add, Int.sub_zero, Int.neg_neg, not_true_eq_false, not_false_eq_true, Int.add_sub_cancel, ↓ite_iH, iH_t, iH_f, bH_iH, ↓bH_bind, xr_iH, ↓xr_bind, W_iH, WI_t, WI_f, aR_34, aR_19, sR_19, gR_0_0, pR_0, gI_0, pI_0, iO_0, gR_0_1, gR_0_3, gR_0_4, gR_0_5, gR_0_6, gR_0_7, gR_0_8, gR_0_9, gR_0_10, gR_0_11, gI_B, pI_B, iO_B, gR_B0, gR_B1, aR_B, gI_Tb, e1, iH_pos, iH_neg, WI_pos, WI_neg]
    refine ⟨⟨_, _, _, rfl⟩, ?_⟩
    simp (disch := first | assumption | omega) only [↓b_hid, bH_some, ↓hid_W, W_some, I3_a, I3_s, I3_m, I3_n, I3_l, I3_lt, I3_le, I3_e, I3_dv, I3_rm, I3_mx, I3_mn, I3_ab, cI, bI_0, bI_1, rZ_b, up_same, up_row, up_col, xr_some, LQ_r, LQ_l, Int.sub_self, Int.add_zero, Int.zero_add, Int.sub_zero, Int.neg_neg, not_true_eq_false, not_false_eq_true, Int.add_sub_cancel, ↓ite_iH, iH_t, iH_f, bH_iH, ↓bH_bind, xr_iH, ↓xr_bind, W_iH, WI_t, WI_f, gI_189, pI_189, iO_189, gR_189_0, aI_190, sI_190, gR_189_1, aI_191, sI_191, gR_189_3, aI_192, gR_189_10, aI_193, sI_193, gR_189_11, aI_194, sI_194, gR_189_13, aI_195, sI_195, gR_189_15, aI_196, sI_196, gR_189_17, aI_197, sI_197, gR_189_18, aI_198, sI_198, gR_189_19, aI_199, sI_199, gR_189_20, aI_200, sI_200, gR_189_23, aI_201, gR_189_24, aI_202, sI_202, gR_189_25, aI_203, sI_203, gR_189_29, aI_204, sI_204, gR_189_32, aI_205, sI_205, gR_189_35, aI_206, sI_206, pZ_189, gL_189, pL_189, iH_pos, iH_neg, WI_pos, WI_neg]
    exact ⟨trivial, p, z, l, rfl, hJ⟩
  by_cases w2 : w = 2
  · simp (disch := first | assumption | omega) only [↓b_hid, bH_some, ↓hid_W, W_some, I3_a, I3_s, I3_m, I3_n, I3_l, I3_lt, I3_le, I3_e, I3_dv, I3_rm, I3_mx, I3_mn, I3_ab, cI, bI_0, bI_1, rZ_b, up_same, up_row, up_col, xr_some, LQ_r, LQ_l, Int.sub_self, Int.add_zero, Int.zero_add, Int.sub_zero, Int.neg_neg, not_true_eq_false, not_false_eq_true, Int.add_sub_cancel, ↓ite_iH, iH_t, iH_f, bH_iH, ↓bH_bind, xr_iH, ↓xr_bind, W_iH, WI_t, WI_f, aR_34, aR_19, sR_19, gR_0_0, pR_0, gI_0, pI_0, iO_0, gR_0_1, gR_0_3, gR_0_4, gR_0_5, gR_0_6, gR_0_7, gR_0_8, gR_0_9, gR_0_10, gR_0_11, gI_20, pI_20, iO_20, gR_20_0, aI_21, gR_0_3, e2, iH_pos, iH_neg, WI_pos, WI_neg]
    refine ⟨⟨_, _, _, rfl⟩, ?_⟩
    simp (disch := first | assumption | omega) only [↓b_hid, bH_some, ↓hid_W, W_some, I3_a, I3_s, I3_m, I3_n, I3_l, I3_lt, I3_le, I3_e, I3_dv, I3_rm, I3_mx, I3_mn, I3_ab, cI, bI_0, bI_1, rZ_b, up_same, up_row, up_col, xr_some, LQ_r, LQ_l, Int.sub_self, Int.add_zero, Int.zero_add, Int.sub_zero, Int.neg_neg, not_true_eq_false, not_false_eq_true, Int.add_sub_cancel, ↓ite_iH, iH_t, iH_f, bH_iH, ↓bH_bind, xr_iH, ↓xr_bind, W_iH, WI_t, WI_f, gI_189, pI_189, iO_189, gR_189_0, aI_190, sI_190, gR_189_1, aI_191, sI_191, gR_189_3, aI_192, gR_189_10, aI_193, sI_193, gR_189_11, aI_194, sI_194, gR_189_13, aI_195, sI_195, gR_189_15, aI_196, sI_196, gR_189_17, aI_197, sI_197, gR_189_18, aI_198, sI_198, gR_189_19, aI_199, sI_199, gR_189_20, aI_200, sI_200, gR_189_23, aI_201, gR_189_24, aI_202, sI_202, gR_189_25, aI_203, sI_203, gR_189_29, aI_204, sI_204, gR_189_32, aI_205, sI_205, gR_189_35, aI_206, sI_206, pZ_189, gL_189, pL_189, e2', iH_pos, iH_neg, WI_pos, WI_neg]
    exact ⟨trivial, p, z, l, rfl, hJ⟩
  by_cases w3 : w = 3
  · simp (disch := first | assumption | omega) only [↓b_hid, bH_some, ↓hid_W, W_some, I3_a, I3_s, I3_m, I3_n, I3_l, I3_lt, I3_le, I3_e, I3_dv, I3_rm, I3_mx, I3_mn, I3_ab, cI, bI_0, bI_1, rZ_b, up_same, up_row, up_col, xr_some, LQ_r, LQ_l, Int.sub_self, Int.add_zero, Int.zero_add, Int.sub_zero, Int.neg_neg, not_true_eq_false, not_false_eq_true, Int.add_sub_cancel, ↓ite_iH, iH_t, iH_f, bH_iH, ↓bH_bind, xr_iH, ↓xr_bind, W_iH, WI_t, WI_f, aR_34, aR_19, sR_19, gR_0_0, pR_0, gI_0, pI_0, iO_0, gR_0_1, gR_0_3, gR_0_4, gR_0_5, gR_0_6, gR_0_7, gR_0_8, gR_0_9, gR_0_10, gR_0_11, gI_0, e3, iH_pos, iH_neg, WI_pos, WI_neg]
    refine ⟨⟨_, _, _, rfl⟩, ?_⟩
    simp (disch := first | assumption | omega) only [↓b_hid, bH_some, ↓hid_W, W_some, I3_a, I3_s, I3_m, I3_n, I3_l, I3_lt, I3_le, I3_e, I3_dv, I3_rm, I3_mx, I3_mn, I3_ab, cI, bI_0, bI_1, rZ_b, up_same, up_row, up_col, xr_some, LQ_r, LQ_l, Int.sub_self, Int.add_zero, Int.zero_add, Int.sub_zero, Int.neg_neg, not_true_eq_false, not_false_eq_true, Int.add_sub_cancel, ↓ite_iH, iH_t, iH_f, bH_iH, ↓bH_bind, xr_iH, ↓xr_bind, W_iH, WI_t, WI_f, gI_189, pI_189, iO_189, gR_189_0, aI_190, sI_190, gR_189_1, aI_191, sI_191, gR_189_3, aI_192, gR_189_10, aI_193, sI_193, gR_189_11, aI_194, sI_194, gR_189_13, aI_195, sI_195, gR_189_15, aI_196, sI_196, gR_189_17, aI_197, sI_197, gR_189_18, aI_198, sI_198, gR_189_19, aI_199, sI_199, gR_189_20, aI_200, sI_200, gR_189_23, aI_201, gR_189_24, aI_202, sI_202, gR_189_25, aI_203, sI_203, gR_189_29, aI_204, sI_204, gR_189_32, aI_205, sI_205, gR_189_35, aI_206, sI_206, pZ_189, gL_189, pL_189, h2, iH_pos, iH_neg, WI_pos, WI_neg]
    exact ⟨trivial, p, z, l, rfl, hJ⟩
  simp (disch := first | assumption | omega) only [↓b_hid, bH_some, ↓hid_W, W_some, I3_a, I3_s, I3_m, I3_n, I3_l, I3_lt, I3_le, I3_e, I3_dv, I3_rm, I3_mx, I3_mn, I3_ab, cI, bI_0, bI_1, rZ_b, up_same, up_row, up_col, xr_some, LQ_r, LQ_l, Int.sub_self, Int.add_zero, Int.zero_add, Int.sub_zero, Int.neg_neg, not_true_eq_false, not_false_eq_true, Int.add_sub_cancel, ↓ite_iH, iH_t, iH_f, bH_iH, ↓bH_bind, xr_iH, ↓xr_bind, W_iH, WI_t, WI_f, iH_pos, iH_neg, WI_pos, WI_neg]
  exact ⟨⟨_, _, _, rfl⟩, trivial, p, z, l, rfl, hJ⟩
/-- the text is another one -/
theorem RJ_T {p : Nat → Nat} {z z' : Nat → Int → Int} {T : Tx} (h : RJ p z) (hF : ∀ k, k ≠ 20 → k ≠ 21 → k ≠ 189 → k ≠ 192 → z' k = z k) (h2 : z' 189 2 = z 189 2) (hC : CtB z' T) (hM : MtB z' T) (hT : Tg T) : RJ p z' := by
  obtain ⟨T0, n, hp, hV, hS, hn, h2', hH, _, _, _⟩ := h
  have e190 := hF 190 (by decide) (by decide) (by decide) (by decide)
  have e191 := hF 191 (by decide) (by decide) (by decide) (by decide)
  refine ⟨T, n, hp, by rw [e190]; exact hV, ?_, hn, by rw [h2]; exact h2', ?_, hC, hM, hT⟩
  · rw [e190]
    exact St_congr hV (fun k k0 k1 => by have := isB_f (hp.1 0 (by omega)) k0 k1; exact hF k (by omega) (by omega) (by omega) (by omega)) hS
  · have : pst6 z' = pst6 z := by unfold pst6; rw [e191]
    rw [this]; exact Hs_X hp hn.2 (fun k hk => hF k (by omega) (by omega) (by omega) (by omega)) hH
theorem j_clearText : JT (f_X11_clearText 0) (f_X12_clearText 189) := by
  intro p z l hJ
  obtain ⟨T, n, hp, hV, hS, hn, h2, hH, hC, hM, hT⟩ := id hJ
  have e2 : z 20 1 = T.1 := hC.1
  have e2' : z 189 4 = T.1 := hM.1
  unfold f_X11_clearText f_X12_clearText
  simp (disch := first | assumption | omega) only [↓b_hid, bH_some, ↓hid_W, W_some, I3_a, I3_s, I3_m, I3_n, I3_l, I3_lt, I3_le, I3_e, I3_dv, I3_rm, I3_mx, I3_mn, I3_ab, cI, bI_0, bI_1, rZ_b, up_same, up_row, up_col, xr_some, LQ_r, LQ_l, Int.sub_self, Int.add_zero, Int.zero_add, Int.sub_zero, Int.neg_neg, not_true_eq_false, not_false_eq_true, Int.add_sub_cancel, ↓ite_iH, iH_t, iH_f, bH_iH, ↓bH_bind, xr_iH, ↓xr_bind, W_iH, WI_t, WI_f, aR_34, aR_19, sR_19, gR_0_0, pR_0, gI_0, pI_0, iO_0, gR_0_1, gR_0_3, gR_0_4, gR_0_5, gR_0_6, gR_0_7, gR_0_8, gR_0_9, gR_0_10, gR_0_11, gI_20, pI_20, iO_20, gR_20_0, aI_21, gI_189, pI_189, iO_189, gR_189_0, aI_190, sI_190, gR_189_1, aI_191, sI_191, gR_189_3, aI_192, gR_189_10, aI_193, sI_193, gR_189_11, aI_194, sI_194, gR_189_13, aI_195, sI_195, gR_189_15, aI_196, sI_196, gR_189_17, aI_197, sI_197, gR_189_18, aI_198, sI_198, gR_189_19, aI_199, sI_199, gR_189_20, aI_200, sI_200, gR_189_23, aI_201, gR_189_24, aI_202, sI_202, gR_189_25, aI_203, sI_203, gR_189_29, aI_204, sI_204, gR_189_32, aI_205, sI_205, gR_189_35, aI_206, sI_206, pZ_189, gL_189, pL_189, gR_0_3, e2, e2']
  refine ⟨⟨_, _, _, rfl⟩, trivial, p, _, l, rfl, RJ_T (T := (0, fun _ => 0)) hJ (fun k k0 k1 k2 k3 => by rw [up_row k2, up_row k0]) (by rw [up_col (by decide), up_row (by decide)]) ⟨by rw [up_row (by decide), up_same]; rfl, fun i i0 i1 => ?_⟩ ⟨up_same _ _ _ _, fun i i0 i1 => ?_⟩ ⟨by decide, fun i i0 i1 => ?_⟩⟩
  · simp only at i1; omega
  · simp only at i1; omega
  · simp only at i1; omega
theorem byte_s {v : Int} (h0 : 0 ≤ v) (h1 : v ≤ 255) : nrw 13 (I3 v).toInt8.toInt32 = I3 (if v < 128 then v else v - 256) := by
  have h : ∀ n : Nat, n < 256 → (I3 (n : Int)).toInt8.toInt32.toInt8.toInt32 = I3 (if (n : Int) < 128 then (n : Int) else (n : Int) - 256) := by decide +kernel
  have h2 := h v.toNat (by omega)
  rw [show ((v.toNat : Nat) : Int) = v by omega] at h2
  exact h2
theorem j_appendCharacter (a : Int32) : JT (f_X11_appendCharacter 0 a) (f_X12_appendCharacter 189 a) := by
  obtain ⟨v, hv, rfl⟩ := i3x a
  intro p z l hJ
  obtain ⟨T, n, hp, hV, hS, hn, h2, hH, hC, hM, hT⟩ := id hJ
  have hT1 := hT.1
  have e2 : z 20 1 = T.1 := hC.1
  have e2' : z 189 4 = T.1 := hM.1
  unfold f_X11_appendCharacter f_X12_appendCharacter
  by_cases h1 : 0 ≤ v ∧ v ≤ 255
  case neg =>
    simp (disch := first | assumption | omega) only [↓b_hid, bH_some, ↓hid_W, W_some, I3_a, I3_s, I3_m, I3_n, I3_l, I3_lt, I3_le, I3_e, I3_dv, I3_rm, I3_mx, I3_mn, I3_ab, cI, bI_0, bI_1, rZ_b, up_same, up_row, up_col, xr_some, LQ_r, LQ_l, Int.sub_self, Int.add_zero, Int.zero_add, Int.sub_zero, Int.neg_neg, not_true_eq_false, not_false_eq_true, Int.add_sub_cancel, ↓ite_iH, iH_t, iH_f, bH_iH, ↓bH_bind, xr_iH, ↓xr_bind, W_iH, WI_t, WI_f, g_inRange, bI_f, iH_pos, iH_neg, WI_pos, WI_neg]
    refine ⟨⟨_, _, _, rfl⟩, ?_⟩
    simp (disch := first | assumption | omega) only [↓b_hid, bH_some, ↓hid_W, W_some, I3_a, I3_s, I3_m, I3_n, I3_l, I3_lt, I3_le, I3_e, I3_dv, I3_rm, I3_mx, I3_mn, I3_ab, cI, bI_0, bI_1, rZ_b, up_same, up_row, up_col, xr_some, LQ_r, LQ_l, Int.sub_self, Int.add_zero, Int.zero_add, Int.sub_zero, Int.neg_neg, not_true_eq_false, not_false_eq_true, Int.add_sub_cancel, ↓ite_iH, iH_t, iH_f, bH_iH, ↓bH_bind, xr_iH, ↓xr_bind, W_iH, WI_t, WI_f, m_in, bI_f, iH_pos, iH_neg, WI_pos, WI_neg]
    exact ⟨trivial, p, z, l, rfl, hJ⟩
  by_cases h3 : T.1 < 160
  case neg =>
    have h160 : (T.1 : Int) = 160 := by omega
    rw [h160] at e2 e2'
    simp (disch := first | assumption | omega) only [↓b_hid, bH_some, ↓hid_W, W_some, I3_a, I3_s, I3_m, I3_n, I3_l, I3_lt, I3_le, I3_e, I3_dv, I3_rm, I3_mx, I3_mn, I3_ab, cI, bI_0, bI_1, rZ_b, up_same, up_row, up_col, xr_some, LQ_r, LQ_l, Int.sub_self, Int.add_zero, Int.zero_add, Int.sub_zero, Int.neg_neg, not_true_eq_false, not_false_eq_true, Int.add_sub_cancel, ↓ite_iH, iH_t, iH_f, bH_iH, ↓bH_bind, xr_iH, ↓xr_bind, W_iH, WI_t, WI_f, aR_34, aR_19, sR_19, gR_0_0, pR_0, gI_0, pI_0, iO_0, gR_0_1, gR_0_3, gR_0_4, gR_0_5, gR_0_6, gR_0_7, gR_0_8, gR_0_9, gR_0_10, gR_0_11, gI_20, pI_20, iO_20, gR_20_0, aI_21, g_inRange, bI_t, gR_0_3, e2, iH_pos, iH_neg, WI_pos, WI_neg]
    refine ⟨⟨_, _, _, rfl⟩, ?_⟩
    simp (disch := first | assumption | omega) only [↓b_hid, bH_some, ↓hid_W, W_some, I3_a, I3_s, I3_m, I3_n, I3_l, I3_lt, I3_le, I3_e, I3_dv, I3_rm, I3_mx, I3_mn, I3_ab, cI, bI_0, bI_1, rZ_b, up_same, up_row, up_col, xr_some, LQ_r, LQ_l, Int.sub_self, Int.add_zero, Int.zero_add, Int.sub_zero, Int.neg_neg, not_true_eq_false, not_false_eq_true, Int.add_sub_cancel, ↓ite_iH, iH_t, iH_f, bH_iH, ↓bH_bind, xr_iH, ↓xr_bind, W_iH, WI_t, WI_f, gI_189, pI_189, iO_189, gR_189_0, aI_190, sI_190, gR_189_1, aI_191, sI_191, gR_189_3, aI_192, gR_189_10, aI_193, sI_193, gR_189_11, aI_194, sI_194, gR_189_13, aI_195, sI_195, gR_189_15, aI_196, sI_196, gR_189_17, aI_197, sI_197, gR_189_18, aI_198, sI_198, gR_189_19, aI_199, sI_199, gR_189_20, aI_200, sI_200, gR_189_23, aI_201, gR_189_24, aI_202, sI_202, gR_189_25, aI_203, sI_203, gR_189_29, aI_204, sI_204, gR_189_32, aI_205, sI_205, gR_189_35, aI_206, sI_206, pZ_189, gL_189, pL_189, m_in, bI_t, e2', iH_pos, iH_neg, WI_pos, WI_neg]
    exact ⟨trivial, p, z, l, rfl, hJ⟩
  have c16 := ch16 h1.1 h1.2
  have gp : f_X9_put 20 (I3 v) (M p z l) = some (M p (up (up z 21 T.1 v) 20 1 (T.1 + 1)) l) := by
    apply W_eq; unfold f_X9_put
    simp (disch := first | assumption | omega) only [↓b_hid, bH_some, ↓hid_W, W_some, I3_a, I3_s, I3_m, I3_n, I3_l, I3_lt, I3_le, I3_e, I3_dv, I3_rm, I3_mx, I3_mn, I3_ab, cI, bI_0, bI_1, rZ_b, up_same, up_row, up_col, xr_some, LQ_r, LQ_l, Int.sub_self, Int.add_zero, Int.zero_add, Int.sub_zero, Int.neg_neg, not_true_eq_false, not_false_eq_true, Int.add_sub_cancel, ↓ite_iH, iH_t, iH_f, bH_iH, ↓bH_bind, xr_iH, ↓xr_bind, W_iH, WI_t, WI_f, gI_20, pI_20, iO_20, gR_20_0, aI_21, e2, sI_21, iH_pos, iH_neg, WI_pos, WI_neg]
  simp (disch := first | assumption | omega) only [↓b_hid, bH_some, ↓hid_W, W_some, I3_a, I3_s, I3_m, I3_n, I3_l, I3_lt, I3_le, I3_e, I3_dv, I3_rm, I3_mx, I3_mn, I3_ab, cI, bI_0, bI_1, rZ_b, up_same, up_row, up_col, xr_some, LQ_r, LQ_l, Int.sub_self, Int.add_zero, Int.zero_add, Int.sub_zero, Int.neg_neg, not_true_eq_false, not_false_eq_true, Int.add_sub_cancel, ↓ite_iH, iH_t, iH_f, bH_iH, ↓bH_bind, xr_iH, ↓xr_bind, W_iH, WI_t, WI_f, aR_34, aR_19, sR_19, gR_0_0, pR_0, gI_0, pI_0, iO_0, gR_0_1, gR_0_3, gR_0_4, gR_0_5, gR_0_6, gR_0_7, gR_0_8, gR_0_9, gR_0_10, gR_0_11, gI_20, pI_20, iO_20, gR_20_0, aI_21, g_inRange, bI_t, gR_0_3, e2, c16, gp, iH_pos, iH_neg, WI_pos, WI_neg]
  refine ⟨⟨_, _, _, rfl⟩, ?_⟩
  generalize hz1 : up (up z 21 T.1 v) 20 1 (T.1 + 1) = z1
  have f4 : z1 189 4 = T.1 := by rw [← hz1, up_row (by decide), up_row (by decide)]; exact e2'
  have f1 : z1 20 1 = T.1 + 1 := by rw [← hz1, up_same]
  have hsI : sI (M p z1 l) 13 192 (I3 T.1) (I3 v).toInt8.toInt32 = some (M p (up z1 192 T.1 (if v < 128 then v else v - 256)) l) := sI_M rfl (by decide) (by omega) (by omega) (byte_s h1.1 h1.2)
  simp (disch := first | assumption | omega) only [↓b_hid, bH_some, ↓hid_W, W_some, I3_a, I3_s, I3_m, I3_n, I3_l, I3_lt, I3_le, I3_e, I3_dv, I3_rm, I3_mx, I3_mn, I3_ab, cI, bI_0, bI_1, rZ_b, up_same, up_row, up_col, xr_some, LQ_r, LQ_l, Int.sub_self, Int.add_zero, Int.zero_add, Int.sub_zero, Int.neg_neg, not_true_eq_false, not_false_eq_true, Int.add_sub_cancel, ↓ite_iH, iH_t, iH_f, bH_iH, ↓bH_bind, xr_iH, ↓xr_bind, W_iH, WI_t, WI_f, gI_189, pI_189, iO_189, gR_189_0, aI_190, sI_190, gR_189_1, aI_191, sI_191, gR_189_3, aI_192, gR_189_10, aI_193, sI_193, gR_189_11, aI_194, sI_194, gR_189_13, aI_195, sI_195, gR_189_15, aI_196, sI_196, gR_189_17, aI_197, sI_197, gR_189_18, aI_198, sI_198, gR_189_19, aI_199, sI_199, gR_189_20, aI_200, sI_200, gR_189_23, aI_201, gR_189_24, aI_202, sI_202, gR_189_25, aI_203, sI_203, gR_189_29, aI_204, sI_204, gR_189_32, aI_205, sI_205, gR_189_35, aI_206, sI_206, pZ_189, gL_189, pL_189, m_in, bI_t, f4, hsI, iH_pos, iH_neg, WI_pos, WI_neg]
  refine ⟨trivial, p, _, l, rfl, RJ_T (T := (T.1 + 1, fun i => if i = T.1 then v else T.2 i)) hJ (fun k k0 k1 k2 k3 => by rw [up_row k2, up_row k3, ← hz1, up_row k0, up_row k1]) (by rw [up_col (by decide), up_row (by decide), ← hz1, up_row (by decide), up_row (by decide)]) ⟨?_, fun i i0 i1 => ?_⟩ ⟨?_, fun i i0 i1 => ?_⟩ ⟨by simp only; omega, fun i i0 i1 => ?_⟩⟩
  · rw [up_row (by decide), up_row (by decide), f1]; simp
  · simp only at i1 ⊢
    rw [up_row (by decide), up_row (by decide), ← hz1, up_row (by decide)]
    by_cases hi : i = T.1
    · rw [if_pos hi, hi, up_same]
    · rw [if_neg hi, up_col hi]; exact hC.2 i i0 (by omega)
  · rw [up_same]; simp
  · simp only at i1 ⊢
    rw [up_row (by decide)]
    by_cases hi : i = T.1
    · rw [if_pos hi, hi, up_same]
    · rw [if_neg hi, up_col hi, ← hz1, up_row (by decide), up_row (by decide)]; exact hM.2 i i0 (by omega)
  · simp only at i1 ⊢
    split
    · exact h1
    · exact hT.2 i i0 (by omega)
