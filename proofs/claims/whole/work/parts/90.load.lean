/-! load(): the model. -/
section
variable {p : Nat → Nat} {z l : Nat → Int → Int}
set_option maxHeartbeats 8000000 in
theorem m_58 {T : Tx} {σ : Int → Int} {zb : Nat → Int → Int} {Q : Int32 × MS → Prop} (hT : Tg T) (hM : MtB zb T) {n : Nat} {st : Nat × Int32 × MS} (hst : LdI T σ p zb n st) (hQe : ∀ (k : Nat) z' l' e, FrI zb z' → Mw e z' → pTx T σ = .inl e → WP (f_X12_load_214 189 (I3 k) (M p z' l')) Q) (hQo : ∀ (k : Nat) z' l' τ, FrI zb z' → z' 189 9 = 0 → z' 190 = τ → V τ → pTx T σ = .inr ((k : Int), τ) → WP (f_X12_load_214 189 (I3 k) (M p z' l')) Q) : WP (f_X12_load_58_b st.1 st.2.1 st.2.2) (LQ Q (LdI T σ p zb) n) := by
  obtain ⟨k, z', l', rfl, hF, hd⟩ := hst
  unfold f_X12_load_58_b
  rcases hd with ⟨e, hw, hE, rfl⟩ | ⟨q, τ, hA, hq, hτ, hV, hkn, hE⟩
  · have h9 := hw.1
    have := hQe k z' l' e hF hw hE
    simp (disch := first | assumption | omega) only [↓b_hid, bH_some, ↓hid_W, W_some, I3_a, I3_s, I3_m, I3_n, I3_l, I3_lt, I3_le, I3_e, I3_dv, I3_rm, I3_mx, I3_mn, I3_ab, cI, bI_0, bI_1, rZ_b, up_same, up_row, up_col, xr_some, LQ_r, LQ_l, Int.sub_self, Int.add_zero, Int.zero_add, Int.sub_zero, Int.neg_neg, not_true_eq_false, not_false_eq_true, Int.add_sub_cancel, ↓ite_iH, iH_t, iH_f, bH_iH, ↓bH_bind, xr_iH, ↓xr_bind, W_iH, WI_t, WI_f, gI_189, pI_189, iO_189, gR_189_0, aI_190, sI_190, gR_189_1, aI_191, sI_191, gR_189_3, aI_192, gR_189_10, aI_193, sI_193, gR_189_11, aI_194, sI_194, gR_189_13, aI_195, sI_195, gR_189_15, aI_196, sI_196, gR_189_17, aI_197, sI_197, gR_189_18, aI_198, sI_198, gR_189_19, aI_199, sI_199, gR_189_20, aI_200, sI_200, gR_189_23, aI_201, gR_189_24, aI_202, sI_202, gR_189_25, aI_203, sI_203, gR_189_29, aI_204, sI_204, gR_189_32, aI_205, sI_205, gR_189_35, aI_206, sI_206, pZ_189, gL_189, pL_189, h9, iH_pos, iH_neg, WI_pos, WI_neg]
    refine W_xr ?_
    simp only [LQ_r]
    exact this
  · obtain ⟨n, rfl⟩ : ∃ m, n = m + 1 := by
      have := hT.1
      exact ⟨n - 1, by omega⟩
    have hM' := MtB_I hF hM
    have hA' := hA
    obtain ⟨h9, g5, g6, g7, g8, gw⟩ := hA'
    have q0 : 0 ≤ q := by omega
    have b0 := tkE_b hT q0 hq.2
    have s1 := tkS_r hT q0 hq.2
    have e1 := tkE_r hT q0 hq.2
    have v3 := hV.2.2.2.1
    have v58 := hV.2.2.2.2.1
    have e3 : z' 190 3 = τ 3 := by rw [hτ]
    have e58 : z' 190 58 = τ 58 := by rw [hτ]
    have hkr : 0 ≤ tkK T q ∧ tkK T q ≤ 4 := by
      have := ckT_r T (tkS T q)
      unfold tkK; split
      · split <;> omega
      · omega
    by_cases hK : tkK T q = 0
    · rw [pAl, if_pos hK] at hE
      have := hQo k z' l' τ hF h9 hτ hV hE
      rw [hK] at g7
      simp (disch := first | assumption | omega) only [↓b_hid, bH_some, ↓hid_W, W_some, I3_a, I3_s, I3_m, I3_n, I3_l, I3_lt, I3_le, I3_e, I3_dv, I3_rm, I3_mx, I3_mn, I3_ab, cI, bI_0, bI_1, rZ_b, up_same, up_row, up_col, xr_some, LQ_r, LQ_l, Int.sub_self, Int.add_zero, Int.zero_add, Int.sub_zero, Int.neg_neg, not_true_eq_false, not_false_eq_true, Int.add_sub_cancel, ↓ite_iH, iH_t, iH_f, bH_iH, ↓bH_bind, xr_iH, ↓xr_bind, W_iH, WI_t, WI_f, gI_189, pI_189, iO_189, gR_189_0, aI_190, sI_190, gR_189_1, aI_191, sI_191, gR_189_3, aI_192, gR_189_10, aI_193, sI_193, gR_189_11, aI_194, sI_194, gR_189_13, aI_195, sI_195, gR_189_15, aI_196, sI_196, gR_189_17, aI_197, sI_197, gR_189_18, aI_198, sI_198, gR_189_19, aI_199, sI_199, gR_189_20, aI_200, sI_200, gR_189_23, aI_201, gR_189_24, aI_202, sI_202, gR_189_25, aI_203, sI_203, gR_189_29, aI_204, sI_204, gR_189_32, aI_205, sI_205, gR_189_35, aI_206, sI_206, pZ_189, gL_189, pL_189, h9, g7, iH_pos, iH_neg, WI_pos, WI_neg]
      refine W_xr ?_
      simp only [LQ_r]
      exact this
    · have turn : ∀ {μ : MS}, QM p T zb (pIt T τ q) μ → WP (f_X12_load_191 189 (I3 k) μ) (LQ Q (LdI T σ p zb) (n + 1)) := fun h => m_191 hT hM hq.1 hq.2 hkn hK hE h
      -- the word is refused
      have bad : ∀ w : Int, (w = 0 ∨ w = 1) → pIt T τ q = .inl (tkS T q) → WP (f_X12_load_159 189 (I3 k) (I3 w) (I3 0) 189 (M p z' l')) (LQ Q (LdI T σ p zb) (n + 1)) := by
        intro w hw hI
        unfold f_X12_load_159
        simp (disch := first | assumption | omega) only [↓b_hid, bH_some, ↓hid_W, W_some, I3_a, I3_s, I3_m, I3_n, I3_l, I3_lt, I3_le, I3_e, I3_dv, I3_rm, I3_mx, I3_mn, I3_ab, cI, bI_0, bI_1, rZ_b, up_same, up_row, up_col, xr_some, LQ_r, LQ_l, Int.sub_self, Int.add_zero, Int.zero_add, Int.sub_zero, Int.neg_neg, not_true_eq_false, not_false_eq_true, Int.add_sub_cancel, ↓ite_iH, iH_t, iH_f, bH_iH, ↓bH_bind, xr_iH, ↓xr_bind, W_iH, WI_t, WI_f, gI_189, pI_189, iO_189, gR_189_0, aI_190, sI_190, gR_189_1, aI_191, sI_191, gR_189_3, aI_192, gR_189_10, aI_193, sI_193, gR_189_11, aI_194, sI_194, gR_189_13, aI_195, sI_195, gR_189_15, aI_196, sI_196, gR_189_17, aI_197, sI_197, gR_189_18, aI_198, sI_198, gR_189_19, aI_199, sI_199, gR_189_20, aI_200, sI_200, gR_189_23, aI_201, gR_189_24, aI_202, sI_202, gR_189_25, aI_203, sI_203, gR_189_29, aI_204, sI_204, gR_189_32, aI_205, sI_205, gR_189_35, aI_206, sI_206, pZ_189, gL_189, pL_189]
        refine W_bH (W_imp (n_takes hA) ?_)
        rintro _ ⟨z2, l2, rfl, a, b⟩
        have h92 := b.1
        have ht := turn (μ := M p z2 l2) (by rw [hI]; exact ⟨z2, l2, rfl, FrI_t hF (FrI_M a), Or.inl ⟨_, rfl, b⟩⟩)
        rcases hw with rfl | rfl
        · simp (disch := first | assumption | omega) only [↓b_hid, bH_some, ↓hid_W, W_some, I3_a, I3_s, I3_m, I3_n, I3_l, I3_lt, I3_le, I3_e, I3_dv, I3_rm, I3_mx, I3_mn, I3_ab, cI, bI_0, bI_1, rZ_b, up_same, up_row, up_col, xr_some, LQ_r, LQ_l, Int.sub_self, Int.add_zero, Int.zero_add, Int.sub_zero, Int.neg_neg, not_true_eq_false, not_false_eq_true, Int.add_sub_cancel, ↓ite_iH, iH_t, iH_f, bH_iH, ↓bH_bind, xr_iH, ↓xr_bind, W_iH, WI_t, WI_f, gI_189, pI_189, iO_189, gR_189_0, aI_190, sI_190, gR_189_1, aI_191, sI_191, gR_189_3, aI_192, gR_189_10, aI_193, sI_193, gR_189_11, aI_194, sI_194, gR_189_13, aI_195, sI_195, gR_189_15, aI_196, sI_196, gR_189_17, aI_197, sI_197, gR_189_18, aI_198, sI_198, gR_189_19, aI_199, sI_199, gR_189_20, aI_200, sI_200, gR_189_23, aI_201, gR_189_24, aI_202, sI_202, gR_189_25, aI_203, sI_203, gR_189_29, aI_204, sI_204, gR_189_32, aI_205, sI_205, gR_189_35, aI_206, sI_206, pZ_189, gL_189, pL_189, f_X12_load_180, h92, iH_pos, iH_neg, WI_pos, WI_neg]
          exact ht
        · simp (disch := first | assumption | omega) only [↓b_hid, bH_some, ↓hid_W, W_some, I3_a, I3_s, I3_m, I3_n, I3_l, I3_lt, I3_le, I3_e, I3_dv, I3_rm, I3_mx, I3_mn, I3_ab, cI, bI_0, bI_1, rZ_b, up_same, up_row, up_col, xr_some, LQ_r, LQ_l, Int.sub_self, Int.add_zero, Int.zero_add, Int.sub_zero, Int.neg_neg, not_true_eq_false, not_false_eq_true, Int.add_sub_cancel, ↓ite_iH, iH_t, iH_f, bH_iH, ↓bH_bind, xr_iH, ↓xr_bind, W_iH, WI_t, WI_f, gI_189, pI_189, iO_189, gR_189_0, aI_190, sI_190, gR_189_1, aI_191, sI_191, gR_189_3, aI_192, gR_189_10, aI_193, sI_193, gR_189_11, aI_194, sI_194, gR_189_13, aI_195, sI_195, gR_189_15, aI_196, sI_196, gR_189_17, aI_197, sI_197, gR_189_18, aI_198, sI_198, gR_189_19, aI_199, sI_199, gR_189_20, aI_200, sI_200, gR_189_23, aI_201, gR_189_24, aI_202, sI_202, gR_189_25, aI_203, sI_203, gR_189_29, aI_204, sI_204, gR_189_32, aI_205, sI_205, gR_189_35, aI_206, sI_206, pZ_189, gL_189, pL_189, f_X12_load_180, h92, iH_pos, iH_neg, WI_pos, WI_neg]
          exact ht
      have hwr : tkK T q = 1 → -1000000000000000 ≤ tkW T q ∧ tkW T q ≤ 1000000000000000 := by
        intro _
        have hL : (tkL T q : Int) = tkE T q - tkS T q := by unfold tkL; omega
        have := hwT_b hT (s := tkS T q) (tkL T q) (by omega) (by omega)
        unfold tkW; omega
      by_cases hp : isPr T q
      · have hI := pIt_p (τ := τ) hp
        have hw := gw hp.1
        rw [hp.2] at hw
        rw [hp.1] at g7
        by_cases h6 : τ 3 < 6
        · rw [if_pos h6] at hI
          rw [hI] at turn
          have go : WP (f_X12_load_159 189 (I3 k) (I3 1) (I3 1) 189 (M p z' l')) (LQ Q (LdI T σ p zb) (n + 1)) := by
            unfold f_X12_load_159
            simp (disch := first | assumption | omega) only [↓b_hid, bH_some, ↓hid_W, W_some, I3_a, I3_s, I3_m, I3_n, I3_l, I3_lt, I3_le, I3_e, I3_dv, I3_rm, I3_mx, I3_mn, I3_ab, cI, bI_0, bI_1, rZ_b, up_same, up_row, up_col, xr_some, LQ_r, LQ_l, Int.sub_self, Int.add_zero, Int.zero_add, Int.sub_zero, Int.neg_neg, not_true_eq_false, not_false_eq_true, Int.add_sub_cancel, ↓ite_iH, iH_t, iH_f, bH_iH, ↓bH_bind, xr_iH, ↓xr_bind, W_iH, WI_t, WI_f, gI_189, pI_189, iO_189, gR_189_0, aI_190, sI_190, gR_189_1, aI_191, sI_191, gR_189_3, aI_192, gR_189_10, aI_193, sI_193, gR_189_11, aI_194, sI_194, gR_189_13, aI_195, sI_195, gR_189_15, aI_196, sI_196, gR_189_17, aI_197, sI_197, gR_189_18, aI_198, sI_198, gR_189_19, aI_199, sI_199, gR_189_20, aI_200, sI_200, gR_189_23, aI_201, gR_189_24, aI_202, sI_202, gR_189_25, aI_203, sI_203, gR_189_29, aI_204, sI_204, gR_189_32, aI_205, sI_205, gR_189_35, aI_206, sI_206, pZ_189, gL_189, pL_189]
            refine W_bH (W_imp (y_takes hT hM' q0 hq.2 hA) ?_)
            rintro _ ⟨z2, l2, rfl, a, b⟩
            have h92 := b.1
            have hF2 := FrI_t hF (FrI_M a)
            simp (disch := first | assumption | omega) only [↓b_hid, bH_some, ↓hid_W, W_some, I3_a, I3_s, I3_m, I3_n, I3_l, I3_lt, I3_le, I3_e, I3_dv, I3_rm, I3_mx, I3_mn, I3_ab, cI, bI_0, bI_1, rZ_b, up_same, up_row, up_col, xr_some, LQ_r, LQ_l, Int.sub_self, Int.add_zero, Int.zero_add, Int.sub_zero, Int.neg_neg, not_true_eq_false, not_false_eq_true, Int.add_sub_cancel, ↓ite_iH, iH_t, iH_f, bH_iH, ↓bH_bind, xr_iH, ↓xr_bind, W_iH, WI_t, WI_f, gI_189, pI_189, iO_189, gR_189_0, aI_190, sI_190, gR_189_1, aI_191, sI_191, gR_189_3, aI_192, gR_189_10, aI_193, sI_193, gR_189_11, aI_194, sI_194, gR_189_13, aI_195, sI_195, gR_189_15, aI_196, sI_196, gR_189_17, aI_197, sI_197, gR_189_18, aI_198, sI_198, gR_189_19, aI_199, sI_199, gR_189_20, aI_200, sI_200, gR_189_23, aI_201, gR_189_24, aI_202, sI_202, gR_189_25, aI_203, sI_203, gR_189_29, aI_204, sI_204, gR_189_32, aI_205, sI_205, gR_189_35, aI_206, sI_206, pZ_189, gL_189, pL_189, h92, iH_pos, iH_neg, WI_pos, WI_neg]
            refine W_bH (W_imp (m_readsPr hT hF2 (MtB_I hF2 hM) b0.1 b0.2 b ((a.1 190 (by decide)).trans hτ) hV h6) ?_)
            intro μ hμ
            exact turn hμ
          simp (disch := first | assumption | omega) only [↓b_hid, bH_some, ↓hid_W, W_some, I3_a, I3_s, I3_m, I3_n, I3_l, I3_lt, I3_le, I3_e, I3_dv, I3_rm, I3_mx, I3_mn, I3_ab, cI, bI_0, bI_1, rZ_b, up_same, up_row, up_col, xr_some, LQ_r, LQ_l, Int.sub_self, Int.add_zero, Int.zero_add, Int.sub_zero, Int.neg_neg, not_true_eq_false, not_false_eq_true, Int.add_sub_cancel, ↓ite_iH, iH_t, iH_f, bH_iH, ↓bH_bind, xr_iH, ↓xr_bind, W_iH, WI_t, WI_f, gI_189, pI_189, iO_189, gR_189_0, aI_190, sI_190, gR_189_1, aI_191, sI_191, gR_189_3, aI_192, gR_189_10, aI_193, sI_193, gR_189_11, aI_194, sI_194, gR_189_13, aI_195, sI_195, gR_189_15, aI_196, sI_196, gR_189_17, aI_197, sI_197, gR_189_18, aI_198, sI_198, gR_189_19, aI_199, sI_199, gR_189_20, aI_200, sI_200, gR_189_23, aI_201, gR_189_24, aI_202, sI_202, gR_189_25, aI_203, sI_203, gR_189_29, aI_204, sI_204, gR_189_32, aI_205, sI_205, gR_189_35, aI_206, sI_206, pZ_189, gL_189, pL_189, h9, g7, hw, lg_eq, I6_l, f_X12_load_95, f_X12_load_96, f_X12_load_120, f_X12_load_121, e3, f_X12_load_154, iH_pos, iH_neg, WI_pos, WI_neg]
          exact go
        · rw [if_neg h6] at hI
          have := bad 1 (Or.inr rfl) hI
          simp (disch := first | assumption | omega) only [↓b_hid, bH_some, ↓hid_W, W_some, I3_a, I3_s, I3_m, I3_n, I3_l, I3_lt, I3_le, I3_e, I3_dv, I3_rm, I3_mx, I3_mn, I3_ab, cI, bI_0, bI_1, rZ_b, up_same, up_row, up_col, xr_some, LQ_r, LQ_l, Int.sub_self, Int.add_zero, Int.zero_add, Int.sub_zero, Int.neg_neg, not_true_eq_false, not_false_eq_true, Int.add_sub_cancel, ↓ite_iH, iH_t, iH_f, bH_iH, ↓bH_bind, xr_iH, ↓xr_bind, W_iH, WI_t, WI_f, gI_189, pI_189, iO_189, gR_189_0, aI_190, sI_190, gR_189_1, aI_191, sI_191, gR_189_3, aI_192, gR_189_10, aI_193, sI_193, gR_189_11, aI_194, sI_194, gR_189_13, aI_195, sI_195, gR_189_15, aI_196, sI_196, gR_189_17, aI_197, sI_197, gR_189_18, aI_198, sI_198, gR_189_19, aI_199, sI_199, gR_189_20, aI_200, sI_200, gR_189_23, aI_201, gR_189_24, aI_202, sI_202, gR_189_25, aI_203, sI_203, gR_189_29, aI_204, sI_204, gR_189_32, aI_205, sI_205, gR_189_35, aI_206, sI_206, pZ_189, gL_189, pL_189, h9, g7, hw, lg_eq, I6_l, f_X12_load_95, f_X12_load_96, f_X12_load_120, f_X12_load_121, e3, f_X12_load_138, f_X12_load_158, iH_pos, iH_neg, WI_pos, WI_neg]
          exact this
      · by_cases hb : isBu T q
        · have hI := pIt_b (τ := τ) hp hb
          have hw := gw hb.1
          rw [hb.2] at hw
          rw [hb.1] at g7
          by_cases h12 : τ 58 < 12
          · rw [if_pos h12] at hI
            rw [hI] at turn
            have go : WP (f_X12_load_159 189 (I3 k) (I3 0) (I3 1) 189 (M p z' l')) (LQ Q (LdI T σ p zb) (n + 1)) := by
              unfold f_X12_load_159
              simp (disch := first | assumption | omega) only [↓b_hid, bH_some, ↓hid_W, W_some, I3_a, I3_s, I3_m, I3_n, I3_l, I3_lt, I3_le, I3_e, I3_dv, I3_rm, I3_mx, I3_mn, I3_ab, cI, bI_0, bI_1, rZ_b, up_same, up_row, up_col, xr_some, LQ_r, LQ_l, Int.sub_self, Int.add_zero, Int.zero_add, Int.sub_zero, Int.neg_neg, not_true_eq_false, not_false_eq_true, Int.add_sub_cancel, ↓ite_iH, iH_t, iH_f, bH_iH, ↓bH_bind, xr_iH, ↓xr_bind, W_iH, WI_t, WI_f, gI_189, pI_189, iO_189, gR_189_0, aI_190, sI_190, gR_189_1, aI_191, sI_191, gR_189_3, aI_192, gR_189_10, aI_193, sI_193, gR_189_11, aI_194, sI_194, gR_189_13, aI_195, sI_195, gR_189_15, aI_196, sI_196, gR_189_17, aI_197, sI_197, gR_189_18, aI_198, sI_198, gR_189_19, aI_199, sI_199, gR_189_20, aI_200, sI_200, gR_189_23, aI_201, gR_189_24, aI_202, sI_202, gR_189_25, aI_203, sI_203, gR_189_29, aI_204, sI_204, gR_189_32, aI_205, sI_205, gR_189_35, aI_206, sI_206, pZ_189, gL_189, pL_189]
              refine W_bH (W_imp (y_takes hT hM' q0 hq.2 hA) ?_)
              rintro _ ⟨z2, l2, rfl, a, b⟩
              have h92 := b.1
              have hF2 := FrI_t hF (FrI_M a)
              simp (disch := first | assumption | omega) only [↓b_hid, bH_some, ↓hid_W, W_some, I3_a, I3_s, I3_m, I3_n, I3_l, I3_lt, I3_le, I3_e, I3_dv, I3_rm, I3_mx, I3_mn, I3_ab, cI, bI_0, bI_1, rZ_b, up_same, up_row, up_col, xr_some, LQ_r, LQ_l, Int.sub_self, Int.add_zero, Int.zero_add, Int.sub_zero, Int.neg_neg, not_true_eq_false, not_false_eq_true, Int.add_sub_cancel, ↓ite_iH, iH_t, iH_f, bH_iH, ↓bH_bind, xr_iH, ↓xr_bind, W_iH, WI_t, WI_f, gI_189, pI_189, iO_189, gR_189_0, aI_190, sI_190, gR_189_1, aI_191, sI_191, gR_189_3, aI_192, gR_189_10, aI_193, sI_193, gR_189_11, aI_194, sI_194, gR_189_13, aI_195, sI_195, gR_189_15, aI_196, sI_196, gR_189_17, aI_197, sI_197, gR_189_18, aI_198, sI_198, gR_189_19, aI_199, sI_199, gR_189_20, aI_200, sI_200, gR_189_23, aI_201, gR_189_24, aI_202, sI_202, gR_189_25, aI_203, sI_203, gR_189_29, aI_204, sI_204, gR_189_32, aI_205, sI_205, gR_189_35, aI_206, sI_206, pZ_189, gL_189, pL_189, h92, f_X12_load_180, iH_pos, iH_neg, WI_pos, WI_neg]
              refine W_bH (W_imp (m_readsBu hT hF2 (MtB_I hF2 hM) b0.1 b0.2 b ((a.1 190 (by decide)).trans hτ) hV h12) ?_)
              intro μ hμ
              exact turn hμ
            simp (disch := first | assumption | omega) only [↓b_hid, bH_some, ↓hid_W, W_some, I3_a, I3_s, I3_m, I3_n, I3_l, I3_lt, I3_le, I3_e, I3_dv, I3_rm, I3_mx, I3_mn, I3_ab, cI, bI_0, bI_1, rZ_b, up_same, up_row, up_col, xr_some, LQ_r, LQ_l, Int.sub_self, Int.add_zero, Int.zero_add, Int.sub_zero, Int.neg_neg, not_true_eq_false, not_false_eq_true, Int.add_sub_cancel, ↓ite_iH, iH_t, iH_f, bH_iH, ↓bH_bind, xr_iH, ↓xr_bind, W_iH, WI_t, WI_f, gI_189, pI_189, iO_189, gR_189_0, aI_190, sI_190, gR_189_1, aI_191, sI_191, gR_189_3, aI_192, gR_189_10, aI_193, sI_193, gR_189_11, aI_194, sI_194, gR_189_13, aI_195, sI_195, gR_189_15, aI_196, sI_196, gR_189_17, aI_197, sI_197, gR_189_18, aI_198, sI_198, gR_189_19, aI_199, sI_199, gR_189_20, aI_200, sI_200, gR_189_23, aI_201, gR_189_24, aI_202, sI_202, gR_189_25, aI_203, sI_203, gR_189_29, aI_204, sI_204, gR_189_32, aI_205, sI_205, gR_189_35, aI_206, sI_206, pZ_189, gL_189, pL_189, h9, g7, hw, lg_eq, I6_l, f_X12_load_95, f_X12_load_96, f_X12_load_120, f_X12_load_121, f_X12_load_138, e58, f_X12_load_154, iH_pos, iH_neg, WI_pos, WI_neg]
            exact go
          · rw [if_neg h12] at hI
            have := bad 0 (Or.inl rfl) hI
            simp (disch := first | assumption | omega) only [↓b_hid, bH_some, ↓hid_W, W_some, I3_a, I3_s, I3_m, I3_n, I3_l, I3_lt, I3_le, I3_e, I3_dv, I3_rm, I3_mx, I3_mn, I3_ab, cI, bI_0, bI_1, rZ_b, up_same, up_row, up_col, xr_some, LQ_r, LQ_l, Int.sub_self, Int.add_zero, Int.zero_add, Int.sub_zero, Int.neg_neg, not_true_eq_false, not_false_eq_true, Int.add_sub_cancel, ↓ite_iH, iH_t, iH_f, bH_iH, ↓bH_bind, xr_iH, ↓xr_bind, W_iH, WI_t, WI_f, gI_189, pI_189, iO_189, gR_189_0, aI_190, sI_190, gR_189_1, aI_191, sI_191, gR_189_3, aI_192, gR_189_10, aI_193, sI_193, gR_189_11, aI_194, sI_194, gR_189_13, aI_195, sI_195, gR_189_15, aI_196, sI_196, gR_189_17, aI_197, sI_197, gR_189_18, aI_198, sI_198, gR_189_19, aI_199, sI_199, gR_189_20, aI_200, sI_200, gR_189_23, aI_201, gR_189_24, aI_202, sI_202, gR_189_25, aI_203, sI_203, gR_189_29, aI_204, sI_204, gR_189_32, aI_205, sI_205, gR_189_35, aI_206, sI_206, pZ_189, gL_189, pL_189, h9, g7, hw, lg_eq, I6_l, f_X12_load_95, f_X12_load_96, f_X12_load_120, f_X12_load_121, f_X12_load_138, e58, f_X12_load_158, iH_pos, iH_neg, WI_pos, WI_neg]
            exact this
        · have hI := pIt_n (τ := τ) hp hb
          have := bad 0 (Or.inl rfl) hI
          by_cases h1 : tkK T q = 1
          · have hw := gw h1
            have hwr1 := hwr h1
            have n1 : tkW T q ≠ 8868840 := fun h => hp ⟨h1, h⟩
            have n2 : tkW T q ≠ 40266734 := fun h => hb ⟨h1, h⟩
            rw [h1] at g7
            simp (disch := first | assumption | omega) only [↓b_hid, bH_some, ↓hid_W, W_some, I3_a, I3_s, I3_m, I3_n, I3_l, I3_lt, I3_le, I3_e, I3_dv, I3_rm, I3_mx, I3_mn, I3_ab, cI, bI_0, bI_1, rZ_b, up_same, up_row, up_col, xr_some, LQ_r, LQ_l, Int.sub_self, Int.add_zero, Int.zero_add, Int.sub_zero, Int.neg_neg, not_true_eq_false, not_false_eq_true, Int.add_sub_cancel, ↓ite_iH, iH_t, iH_f, bH_iH, ↓bH_bind, xr_iH, ↓xr_bind, W_iH, WI_t, WI_f, gI_189, pI_189, iO_189, gR_189_0, aI_190, sI_190, gR_189_1, aI_191, sI_191, gR_189_3, aI_192, gR_189_10, aI_193, sI_193, gR_189_11, aI_194, sI_194, gR_189_13, aI_195, sI_195, gR_189_15, aI_196, sI_196, gR_189_17, aI_197, sI_197, gR_189_18, aI_198, sI_198, gR_189_19, aI_199, sI_199, gR_189_20, aI_200, sI_200, gR_189_23, aI_201, gR_189_24, aI_202, sI_202, gR_189_25, aI_203, sI_203, gR_189_29, aI_204, sI_204, gR_189_32, aI_205, sI_205, gR_189_35, aI_206, sI_206, pZ_189, gL_189, pL_189, h9, g7, hw, lg_eq, I6_l, f_X12_load_95, f_X12_load_96, f_X12_load_120, f_X12_load_121, f_X12_load_138, f_X12_load_158, iH_pos, iH_neg, WI_pos, WI_neg]
            exact this
          · simp (disch := first | assumption | omega) only [↓b_hid, bH_some, ↓hid_W, W_some, I3_a, I3_s, I3_m, I3_n, I3_l, I3_lt, I3_le, I3_e, I3_dv, I3_rm, I3_mx, I3_mn, I3_ab, cI, bI_0, bI_1, rZ_b, up_same, up_row, up_col, xr_some, LQ_r, LQ_l, Int.sub_self, Int.add_zero, Int.zero_add, Int.sub_zero, Int.neg_neg, not_true_eq_false, not_false_eq_true, Int.add_sub_cancel, ↓ite_iH, iH_t, iH_f, bH_iH, ↓bH_bind, xr_iH, ↓xr_bind, W_iH, WI_t, WI_f, gI_189, pI_189, iO_189, gR_189_0, aI_190, sI_190, gR_189_1, aI_191, sI_191, gR_189_3, aI_192, gR_189_10, aI_193, sI_193, gR_189_11, aI_194, sI_194, gR_189_13, aI_195, sI_195, gR_189_15, aI_196, sI_196, gR_189_17, aI_197, sI_197, gR_189_18, aI_198, sI_198, gR_189_19, aI_199, sI_199, gR_189_20, aI_200, sI_200, gR_189_23, aI_201, gR_189_24, aI_202, sI_202, gR_189_25, aI_203, sI_203, gR_189_29, aI_204, sI_204, gR_189_32, aI_205, sI_205, gR_189_35, aI_206, sI_206, pZ_189, gL_189, pL_189, h9, g7, f_X12_load_95, f_X12_load_96, f_X12_load_120, f_X12_load_121, f_X12_load_138, f_X12_load_158, iH_pos, iH_neg, WI_pos, WI_neg]
            exact this
set_option maxHeartbeats 8000000 in
theorem m_load {T : Tx} {σ : Int → Int} {n : Int} (hT : Tg T) (hM : MtB z T) (hσ : z 190 = σ) (hV : V σ) (h2 : z 189 2 = n) (h0 : 0 ≤ n) (h6 : n ≤ 6) : WP (f_X12_load 189 (M p z l)) (fun r => ∃ v z' l', r = (I3 v, M p z' l') ∧ (∀ k, k < 189 → z' k = z k) ∧ z' 192 = z 192 ∧ ((∃ e, pTx T σ = .inl e ∧ v = -10 - e ∧ (∀ i, 0 ≤ i → i < 686 → z' 190 i = σ i) ∧ z' 191 = z 191 ∧ z' 189 2 = n ∧ z' 189 4 = T.1) ∨ (∃ τ, pTx T σ = .inr (v, τ) ∧ V τ ∧ (∀ i, 0 ≤ i → i < 686 → z' 190 i = τ i) ∧ z' 189 2 = hsN n ∧ z' 189 4 = 0 ∧ ∀ j k, 0 ≤ j → j < hsN n → 0 ≤ k → k < 686 → pst6 z' j k = hsP n (pst6 z) σ j k))) := by
  unfold f_X12_load f_X12_load_2
  refine lp_W (fun m st => ∃ (k : Nat) (z' : Nat → Int → Int), st = (189, I3 k, M p z' l) ∧ k ≤ 686 ∧ m = 686 - k ∧ (∀ c, c ≠ 193 → z' c = z c) ∧ ∀ i, 0 ≤ i → i < (k : Int) → z' 193 i = σ i) (fun m st hst => ?_) ⟨0, z, rfl, by omega, rfl, fun _ _ => rfl, fun i i0 i1 => by omega⟩
  obtain ⟨k, z1, rfl, hk, rfl, hF, hI⟩ := hst
  have e190 : z1 190 = σ := (hF 190 (by decide)).trans hσ
  unfold f_X12_load_2_b
  by_cases hk6 : k < 686
  · simp (disch := first | assumption | omega) only [↓b_hid, bH_some, ↓hid_W, W_some, I3_a, I3_s, I3_m, I3_n, I3_l, I3_lt, I3_le, I3_e, I3_dv, I3_rm, I3_mx, I3_mn, I3_ab, cI, bI_0, bI_1, rZ_b, up_same, up_row, up_col, xr_some, LQ_r, LQ_l, Int.sub_self, Int.add_zero, Int.zero_add, Int.sub_zero, Int.neg_neg, not_true_eq_false, not_false_eq_true, Int.add_sub_cancel, ↓ite_iH, iH_t, iH_f, bH_iH, ↓bH_bind, xr_iH, ↓xr_bind, W_iH, WI_t, WI_f, gI_189, pI_189, iO_189, gR_189_0, aI_190, sI_190, gR_189_1, aI_191, sI_191, gR_189_3, aI_192, gR_189_10, aI_193, sI_193, gR_189_11, aI_194, sI_194, gR_189_13, aI_195, sI_195, gR_189_15, aI_196, sI_196, gR_189_17, aI_197, sI_197, gR_189_18, aI_198, sI_198, gR_189_19, aI_199, sI_199, gR_189_20, aI_200, sI_200, gR_189_23, aI_201, gR_189_24, aI_202, sI_202, gR_189_25, aI_203, sI_203, gR_189_29, aI_204, sI_204, gR_189_32, aI_205, sI_205, gR_189_35, aI_206, sI_206, pZ_189, gL_189, pL_189, e190, iH_pos, iH_neg, WI_pos, WI_neg]
    refine ⟨_, ?_, k + 1, _, by rw [Int.natCast_add]; rfl, by omega, rfl, fun c hc => by rw [up_row hc]; exact hF c hc, fun i i0 i1 => ?_⟩
    · omega
    · by_cases hi : i = k
      · rw [hi, up_same]
      · rw [up_col hi]; exact hI i i0 (by omega)
  have : k = 686 := by omega
  subst this
  simp (disch := first | assumption | omega) only [↓b_hid, bH_some, ↓hid_W, W_some, I3_a, I3_s, I3_m, I3_n, I3_l, I3_lt, I3_le, I3_e, I3_dv, I3_rm, I3_mx, I3_mn, I3_ab, cI, bI_0, bI_1, rZ_b, up_same, up_row, up_col, xr_some, LQ_r, LQ_l, Int.sub_self, Int.add_zero, Int.zero_add, Int.sub_zero, Int.neg_neg, not_true_eq_false, not_false_eq_true, Int.add_sub_cancel, ↓ite_iH, iH_t, iH_f, bH_iH, ↓bH_bind, xr_iH, ↓xr_bind, W_iH, WI_t, WI_f, gI_189, pI_189, iO_189, gR_189_0, aI_190, sI_190, gR_189_1, aI_191, sI_191, gR_189_3, aI_192, gR_189_10, aI_193, sI_193, gR_189_11, aI_194, sI_194, gR_189_13, aI_195, sI_195, gR_189_15, aI_196, sI_196, gR_189_17, aI_197, sI_197, gR_189_18, aI_198, sI_198, gR_189_19, aI_199, sI_199, gR_189_20, aI_200, sI_200, gR_189_23, aI_201, gR_189_24, aI_202, sI_202, gR_189_25, aI_203, sI_203, gR_189_29, aI_204, sI_204, gR_189_32, aI_205, sI_205, gR_189_35, aI_206, sI_206, pZ_189, gL_189, pL_189, iH_pos, iH_neg, WI_pos, WI_neg]
  refine W_xr ?_
  simp only [LQ_r]
  unfold f_X12_load_27
  simp (disch := first | assumption | omega) only [↓b_hid, bH_some, ↓hid_W, W_some, I3_a, I3_s, I3_m, I3_n, I3_l, I3_lt, I3_le, I3_e, I3_dv, I3_rm, I3_mx, I3_mn, I3_ab, cI, bI_0, bI_1, rZ_b, up_same, up_row, up_col, xr_some, LQ_r, LQ_l, Int.sub_self, Int.add_zero, Int.zero_add, Int.sub_zero, Int.neg_neg, not_true_eq_false, not_false_eq_true, Int.add_sub_cancel, ↓ite_iH, iH_t, iH_f, bH_iH, ↓bH_bind, xr_iH, ↓xr_bind, W_iH, WI_t, WI_f, gI_189, pI_189, iO_189, gR_189_0, aI_190, sI_190, gR_189_1, aI_191, sI_191, gR_189_3, aI_192, gR_189_10, aI_193, sI_193, gR_189_11, aI_194, sI_194, gR_189_13, aI_195, sI_195, gR_189_15, aI_196, sI_196, gR_189_17, aI_197, sI_197, gR_189_18, aI_198, sI_198, gR_189_19, aI_199, sI_199, gR_189_20, aI_200, sI_200, gR_189_23, aI_201, gR_189_24, aI_202, sI_202, gR_189_25, aI_203, sI_203, gR_189_29, aI_204, sI_204, gR_189_32, aI_205, sI_205, gR_189_35, aI_206, sI_206, pZ_189, gL_189, pL_189, iH_pos, iH_neg, WI_pos, WI_neg]
  generalize hz2 : up (up (up (up z1 190 3 0) 190 58 0) 189 5 0) 189 9 0 = z2
  have r190 : z2 190 = τ0 σ := by
    rw [← hz2, up_row (by decide), up_row (by decide)]
    funext j
    obtain ⟨t3, t58, tO⟩ := τ0_v σ
    by_cases h58 : j = 58
    · rw [h58, up_same, t58]
    · rw [up_col h58]
      by_cases h3 : j = 3
      · rw [h3, up_same, t3]
      · rw [up_col h3, e190, tO j h3 h58]
  have ro : ∀ c, c ≠ 189 → c ≠ 190 → z2 c = z1 c := fun c c0 c1 => by rw [← hz2]; simp (disch := omega) only [up_row]
  have rf : ∀ j, j ≠ 5 → j ≠ 9 → z2 189 j = z 189 j := fun j j0 j1 => by rw [← hz2, up_col j1, up_col j0, up_row (by decide), up_row (by decide), hF 189 (by decide)]
  have f9' : z2 189 9 = 0 := by rw [← hz2, up_same]
  have f5' : z2 189 5 = 0 := by rw [← hz2, up_col (by decide), up_same]
  have hM2 : MtB z2 T := ⟨(rf 4 (by decide) (by decide)).trans hM.1, by rw [ro 192 (by decide) (by decide), hF 192 (by decide)]; exact hM.2⟩
  refine W_bH (W_imp (m_readsT hT hM2 (by decide) (by omega) f5') ?_)
  rintro _ ⟨z3, l3, rfl, a1, a2⟩
  have r3 : z3 190 = τ0 σ := (a1.1 190 (by decide)).trans r190
  have g9 : z3 189 9 = 0 := (a1.2 9 (by decide) (by decide) (by decide)).trans f9'
  have hM3 := MtB_N a1 hM2
  have r193 : ∀ i, 0 ≤ i → i < 686 → z3 193 i = σ i := fun i i0 i1 => by rw [a1.1 193 (by decide), ro 193 (by decide) (by decide)]; exact hI i i0 (by omega)
  have rlo : ∀ c, c < 189 ∨ c = 191 ∨ c = 192 → z3 c = z c := fun c hc => by rw [a1.1 c (by omega), ro c (by omega) (by omega), hF c (by omega)]
  have r2 : z3 189 2 = n ∧ z3 189 4 = T.1 := ⟨by rw [a1.2 2 (by decide) (by decide) (by decide), rf 2 (by decide) (by decide)]; exact h2, hM3.1⟩
  simp (disch := first | assumption | omega) only [↓b_hid, bH_some, ↓hid_W, W_some, I3_a, I3_s, I3_m, I3_n, I3_l, I3_lt, I3_le, I3_e, I3_dv, I3_rm, I3_mx, I3_mn, I3_ab, cI, bI_0, bI_1, rZ_b, up_same, up_row, up_col, xr_some, LQ_r, LQ_l, Int.sub_self, Int.add_zero, Int.zero_add, Int.sub_zero, Int.neg_neg, not_true_eq_false, not_false_eq_true, Int.add_sub_cancel, ↓ite_iH, iH_t, iH_f, bH_iH, ↓bH_bind, xr_iH, ↓xr_bind, W_iH, WI_t, WI_f]
  unfold f_X12_load_58
  refine lp_W (LdI T σ p z3) (fun m st hst => m_58 hT hM3 hst (fun k z' l' e c1 c2 c3 => ?_) (fun k z' l' τ c1 c2 c3 c4 c5 => ?_)) (n := 161) ⟨0, z3, l3, rfl, FrI_r z3, Or.inr ⟨0, τ0 σ, ⟨g9, a2⟩, by omega, r3, V_τ0 hV, rfl, rfl⟩⟩
  · unfold f_X12_load_214
    simp (disch := first | assumption | omega) only [↓b_hid, bH_some, ↓hid_W, W_some, I3_a, I3_s, I3_m, I3_n, I3_l, I3_lt, I3_le, I3_e, I3_dv, I3_rm, I3_mx, I3_mn, I3_ab, cI, bI_0, bI_1, rZ_b, up_same, up_row, up_col, xr_some, LQ_r, LQ_l, Int.sub_self, Int.add_zero, Int.zero_add, Int.sub_zero, Int.neg_neg, not_true_eq_false, not_false_eq_true, Int.add_sub_cancel, ↓ite_iH, iH_t, iH_f, bH_iH, ↓bH_bind, xr_iH, ↓xr_bind, W_iH, WI_t, WI_f, gI_189, pI_189, iO_189, gR_189_0, aI_190, sI_190, gR_189_1, aI_191, sI_191, gR_189_3, aI_192, gR_189_10, aI_193, sI_193, gR_189_11, aI_194, sI_194, gR_189_13, aI_195, sI_195, gR_189_15, aI_196, sI_196, gR_189_17, aI_197, sI_197, gR_189_18, aI_198, sI_198, gR_189_19, aI_199, sI_199, gR_189_20, aI_200, sI_200, gR_189_23, aI_201, gR_189_24, aI_202, sI_202, gR_189_25, aI_203, sI_203, gR_189_29, aI_204, sI_204, gR_189_32, aI_205, sI_205, gR_189_35, aI_206, sI_206, pZ_189, gL_189, pL_189]
    refine W_bH (W_imp m_exch ?_)
    rintro _ ⟨z4, rfl, d1, d2⟩
    have h9 : z4 189 9 = 1 := by rw [d1 189 (by decide) (by decide)]; exact c2.1
    have h6' : z4 189 6 = e := by rw [d1 189 (by decide) (by decide)]; exact c2.2
    simp (disch := first | assumption | omega) only [↓b_hid, bH_some, ↓hid_W, W_some, I3_a, I3_s, I3_m, I3_n, I3_l, I3_lt, I3_le, I3_e, I3_dv, I3_rm, I3_mx, I3_mn, I3_ab, cI, bI_0, bI_1, rZ_b, up_same, up_row, up_col, xr_some, LQ_r, LQ_l, Int.sub_self, Int.add_zero, Int.zero_add, Int.sub_zero, Int.neg_neg, not_true_eq_false, not_false_eq_true, Int.add_sub_cancel, ↓ite_iH, iH_t, iH_f, bH_iH, ↓bH_bind, xr_iH, ↓xr_bind, W_iH, WI_t, WI_f, gI_189, pI_189, iO_189, gR_189_0, aI_190, sI_190, gR_189_1, aI_191, sI_191, gR_189_3, aI_192, gR_189_10, aI_193, sI_193, gR_189_11, aI_194, sI_194, gR_189_13, aI_195, sI_195, gR_189_15, aI_196, sI_196, gR_189_17, aI_197, sI_197, gR_189_18, aI_198, sI_198, gR_189_19, aI_199, sI_199, gR_189_20, aI_200, sI_200, gR_189_23, aI_201, gR_189_24, aI_202, sI_202, gR_189_25, aI_203, sI_203, gR_189_29, aI_204, sI_204, gR_189_32, aI_205, sI_205, gR_189_35, aI_206, sI_206, pZ_189, gL_189, pL_189, h9, h6', iH_pos, iH_neg, WI_pos, WI_neg]
    refine ⟨-10 - e, z4, l', rfl, fun c hc => ?_, ?_, Or.inl ⟨e, c3, rfl, fun i i0 i1 => ?_, ?_, ?_, ?_⟩⟩
    · rw [d1 c (by omega) (by omega), c1.1 c (by omega) (by omega), rlo c (by omega)]
    · rw [d1 192 (by decide) (by decide), c1.1 192 (by decide) (by decide), rlo 192 (by decide)]
    · rw [(d2 i i0 i1).1, c1.1 193 (by decide) (by decide)]; exact r193 i i0 i1
    · rw [d1 191 (by decide) (by decide), c1.1 191 (by decide) (by decide), rlo 191 (by decide)]
    · rw [d1 189 (by decide) (by decide), c1.2 2 (by decide) (by decide) (by decide) (by decide)]; exact r2.1
    · rw [d1 189 (by decide) (by decide), c1.2 4 (by decide) (by decide) (by decide) (by decide)]; exact r2.2
  · unfold f_X12_load_214
    simp (disch := first | assumption | omega) only [↓b_hid, bH_some, ↓hid_W, W_some, I3_a, I3_s, I3_m, I3_n, I3_l, I3_lt, I3_le, I3_e, I3_dv, I3_rm, I3_mx, I3_mn, I3_ab, cI, bI_0, bI_1, rZ_b, up_same, up_row, up_col, xr_some, LQ_r, LQ_l, Int.sub_self, Int.add_zero, Int.zero_add, Int.sub_zero, Int.neg_neg, not_true_eq_false, not_false_eq_true, Int.add_sub_cancel, ↓ite_iH, iH_t, iH_f, bH_iH, ↓bH_bind, xr_iH, ↓xr_bind, W_iH, WI_t, WI_f, gI_189, pI_189, iO_189, gR_189_0, aI_190, sI_190, gR_189_1, aI_191, sI_191, gR_189_3, aI_192, gR_189_10, aI_193, sI_193, gR_189_11, aI_194, sI_194, gR_189_13, aI_195, sI_195, gR_189_15, aI_196, sI_196, gR_189_17, aI_197, sI_197, gR_189_18, aI_198, sI_198, gR_189_19, aI_199, sI_199, gR_189_20, aI_200, sI_200, gR_189_23, aI_201, gR_189_24, aI_202, sI_202, gR_189_25, aI_203, sI_203, gR_189_29, aI_204, sI_204, gR_189_32, aI_205, sI_205, gR_189_35, aI_206, sI_206, pZ_189, gL_189, pL_189]
    refine W_bH (W_imp m_exch ?_)
    rintro _ ⟨z4, rfl, d1, d2⟩
    have h9 : z4 189 9 = 0 := by rw [d1 189 (by decide) (by decide)]; exact c2
    have n4 : z4 189 2 = n := by rw [d1 189 (by decide) (by decide), c1.2 2 (by decide) (by decide) (by decide) (by decide)]; exact r2.1
    simp (disch := first | assumption | omega) only [↓b_hid, bH_some, ↓hid_W, W_some, I3_a, I3_s, I3_m, I3_n, I3_l, I3_lt, I3_le, I3_e, I3_dv, I3_rm, I3_mx, I3_mn, I3_ab, cI, bI_0, bI_1, rZ_b, up_same, up_row, up_col, xr_some, LQ_r, LQ_l, Int.sub_self, Int.add_zero, Int.zero_add, Int.sub_zero, Int.neg_neg, not_true_eq_false, not_false_eq_true, Int.add_sub_cancel, ↓ite_iH, iH_t, iH_f, bH_iH, ↓bH_bind, xr_iH, ↓xr_bind, W_iH, WI_t, WI_f, gI_189, pI_189, iO_189, gR_189_0, aI_190, sI_190, gR_189_1, aI_191, sI_191, gR_189_3, aI_192, gR_189_10, aI_193, sI_193, gR_189_11, aI_194, sI_194, gR_189_13, aI_195, sI_195, gR_189_15, aI_196, sI_196, gR_189_17, aI_197, sI_197, gR_189_18, aI_198, sI_198, gR_189_19, aI_199, sI_199, gR_189_20, aI_200, sI_200, gR_189_23, aI_201, gR_189_24, aI_202, sI_202, gR_189_25, aI_203, sI_203, gR_189_29, aI_204, sI_204, gR_189_32, aI_205, sI_205, gR_189_35, aI_206, sI_206, pZ_189, gL_189, pL_189, h9, iH_pos, iH_neg, WI_pos, WI_neg]
    refine W_bH (W_imp (m_note n4 h0 h6) ?_)
    rintro _ ⟨z5, rfl, f1, f2, f3, f4⟩
    simp (disch := first | assumption | omega) only [↓b_hid, bH_some, ↓hid_W, W_some, I3_a, I3_s, I3_m, I3_n, I3_l, I3_lt, I3_le, I3_e, I3_dv, I3_rm, I3_mx, I3_mn, I3_ab, cI, bI_0, bI_1, rZ_b, up_same, up_row, up_col, xr_some, LQ_r, LQ_l, Int.sub_self, Int.add_zero, Int.zero_add, Int.sub_zero, Int.neg_neg, not_true_eq_false, not_false_eq_true, Int.add_sub_cancel, ↓ite_iH, iH_t, iH_f, bH_iH, ↓bH_bind, xr_iH, ↓xr_bind, W_iH, WI_t, WI_f, gI_189, pI_189, iO_189, gR_189_0, aI_190, sI_190, gR_189_1, aI_191, sI_191, gR_189_3, aI_192, gR_189_10, aI_193, sI_193, gR_189_11, aI_194, sI_194, gR_189_13, aI_195, sI_195, gR_189_15, aI_196, sI_196, gR_189_17, aI_197, sI_197, gR_189_18, aI_198, sI_198, gR_189_19, aI_199, sI_199, gR_189_20, aI_200, sI_200, gR_189_23, aI_201, gR_189_24, aI_202, sI_202, gR_189_25, aI_203, sI_203, gR_189_29, aI_204, sI_204, gR_189_32, aI_205, sI_205, gR_189_35, aI_206, sI_206, pZ_189, gL_189, pL_189]
    refine W_bH (W_imp m_exch ?_)
    rintro _ ⟨z6, rfl, g1, g2⟩
    simp (disch := first | assumption | omega) only [↓b_hid, bH_some, ↓hid_W, W_some, I3_a, I3_s, I3_m, I3_n, I3_l, I3_lt, I3_le, I3_e, I3_dv, I3_rm, I3_mx, I3_mn, I3_ab, cI, bI_0, bI_1, rZ_b, up_same, up_row, up_col, xr_some, LQ_r, LQ_l, Int.sub_self, Int.add_zero, Int.zero_add, Int.sub_zero, Int.neg_neg, not_true_eq_false, not_false_eq_true, Int.add_sub_cancel, ↓ite_iH, iH_t, iH_f, bH_iH, ↓bH_bind, xr_iH, ↓xr_bind, W_iH, WI_t, WI_f, gI_189, pI_189, iO_189, gR_189_0, aI_190, sI_190, gR_189_1, aI_191, sI_191, gR_189_3, aI_192, gR_189_10, aI_193, sI_193, gR_189_11, aI_194, sI_194, gR_189_13, aI_195, sI_195, gR_189_15, aI_196, sI_196, gR_189_17, aI_197, sI_197, gR_189_18, aI_198, sI_198, gR_189_19, aI_199, sI_199, gR_189_20, aI_200, sI_200, gR_189_23, aI_201, gR_189_24, aI_202, sI_202, gR_189_25, aI_203, sI_203, gR_189_29, aI_204, sI_204, gR_189_32, aI_205, sI_205, gR_189_35, aI_206, sI_206, pZ_189, gL_189, pL_189]
    have x190 : ∀ i, 0 ≤ i → i < 686 → z4 190 i = σ i := fun i i0 i1 => by rw [(d2 i i0 i1).1, c1.1 193 (by decide) (by decide)]; exact r193 i i0 i1
    have x191 : z4 191 = z 191 := by rw [d1 191 (by decide) (by decide), c1.1 191 (by decide) (by decide), rlo 191 (by decide)]
    refine ⟨k, _, l', rfl, fun c hc => ?_, ?_, Or.inr ⟨τ, c5, c4, fun i i0 i1 => ?_, ?_, up_same _ _ _ _, fun j k' j0 j1 k0 k1 => ?_⟩⟩
    · rw [up_row (by omega), g1 c (by omega) (by omega), f1 c (by omega) (by omega), d1 c (by omega) (by omega), c1.1 c (by omega) (by omega), rlo c (by omega)]
    · rw [up_row (by decide), g1 192 (by decide) (by decide), f1 192 (by decide) (by decide), d1 192 (by decide) (by decide), c1.1 192 (by decide) (by decide), rlo 192 (by decide)]
    · rw [up_row (by decide), (g2 i i0 i1).1, f1 193 (by decide) (by decide), (d2 i i0 i1).2, c3]
    · rw [up_col (by decide), g1 189 (by decide) (by decide)]; exact f3
    · have := f4 j k' j0 j1 k0 k1
      have e6 : pst6 (up z6 189 4 0) j k' = pst6 z5 j k' := by unfold pst6; rw [up_row (by decide), g1 191 (by decide) (by decide)]
      rw [e6, this]
      have ep : pst6 z4 = pst6 z := by unfold pst6; rw [x191]
      rw [ep]
      unfold hsP
      split
      · split
        · exact x190 k' k0 k1
        · rfl
      · split
        · exact x190 k' k0 k1
        · rfl
end
