/-! The model reads a button. -/
section
variable {p : Nat → Nat} {z l : Nat → Int → Int}
set_option maxHeartbeats 8000000 in
theorem m_readsBu {T : Tx} {z0 : Nat → Int → Int} {τ : Int → Int} {q : Int} (hT : Tg T) (hF : FrI z0 z) (hM : MtB z T) (h0 : 0 ≤ q) (h1 : q ≤ T.1) (hA : Ma T q z l) (hτ : z 190 = τ) (hV : V τ) (h12 : τ 58 < 12) : WP (f_X12_readsButton 189 (M p z l)) (QM p T z0 (pBu T τ q)) := by
  have b0 := tkE_b hT h0 h1
  have v3 := hV.2.2.2.1
  have v58 := hV.2.2.2.2.1
  have e3 : z 190 3 = τ 3 := by rw [hτ]
  unfold f_X12_readsButton pBu
  simp (disch := first | assumption | omega) only [↓b_hid, bH_some, ↓hid_W, W_some, I3_a, I3_s, I3_m, I3_n, I3_l, I3_lt, I3_le, I3_e, I3_dv, I3_rm, I3_mx, I3_mn, I3_ab, cI, bI_0, bI_1, rZ_b, up_same, up_row, up_col, xr_some, LQ_r, LQ_l, Int.sub_self, Int.add_zero, Int.zero_add, Int.sub_zero, Int.neg_neg, not_true_eq_false, not_false_eq_true, Int.add_sub_cancel, ↓ite_iH, iH_t, iH_f, bH_iH, ↓bH_bind, xr_iH, ↓xr_bind, W_iH, WI_t, WI_f, gI_189, pI_189, iO_189, gR_189_0, aI_190, sI_190, gR_189_1, aI_191, sI_191, gR_189_3, aI_192, gR_189_10, aI_193, sI_193, gR_189_11, aI_194, sI_194, gR_189_13, aI_195, sI_195, gR_189_15, aI_196, sI_196, gR_189_17, aI_197, sI_197, gR_189_18, aI_198, sI_198, gR_189_19, aI_199, sI_199, gR_189_20, aI_200, sI_200, gR_189_23, aI_201, gR_189_24, aI_202, sI_202, gR_189_25, aI_203, sI_203, gR_189_29, aI_204, sI_204, gR_189_32, aI_205, sI_205, gR_189_35, aI_206, sI_206, pZ_189, gL_189, pL_189, e3]
  refine m_rdN (Q := QM p T z0) hT hM h0 h1 hA (by decide) (by omega) (fun z1 l1 hF1 hM1 hA1 n1 => ?_) (fun x1 z1 l1 hF1 w1 => ?_)
  case _ =>
    have n1' := n1.2
    have b1 := tkE_b hT b0.1 b0.2
    have hτ1 : z1 190 = τ := (hF1.1 190 (by decide)).trans hτ
    have hA1' := hA1
    obtain ⟨h9, g5, g6, g7, g8, gw⟩ := hA1'
    have hkr : 0 ≤ tkK T (tkE T q) ∧ tkK T (tkE T q) ≤ 4 := by
      have := ckT_r T (tkS T (tkE T q))
      unfold tkK; split
      · split <;> omega
      · omega
    generalize hxv : tkV T q = x at *
    generalize hq1 : tkE T q = q1 at *
    have hP : PV (Fσ τ x.toNat) := hV.2.2.2.2.2.1 x.toNat (by omega)
    have h6 := hP.2.2.2.2.2.1
    have hpw := pw_r (k := Fσ τ x.toNat 6) (by omega) (by omega)
    have hx2 : ((x.toNat : Nat) : Int) = x := by omega
    have e6 : z1 190 (4 + 9 * x + 6) = Fσ τ x.toNat 6 := by rw [hτ1]; unfold Fσ; rw [hx2]
    -- no
    have no : ¬nOk T 0 (pw (Fσ τ x.toNat 6) - 1) q1 → WP (f_X12_readsButton_106 189 (I3 x) (I3 0) 189 (M p z1 l1)) (QM p T z0 (rdT T 0 (pw (Fσ τ x.toNat 6) - 1) q1 fun c q2 => if fBσ τ x (idn (Fσ τ x.toNat) c) = -9 then (if tkK T q2 = 3 then .inr (tkE T q2, addB τ x (idn (Fσ τ x.toNat) c)) else .inl (tkS T q2)) else .inl (tkS T q1))) := by
      intro hn
      rw [rdT_f hn]
      unfold f_X12_readsButton_106 f_X12_readsButton_107
      simp (disch := first | assumption | omega) only [↓b_hid, bH_some, ↓hid_W, W_some, I3_a, I3_s, I3_m, I3_n, I3_l, I3_lt, I3_le, I3_e, I3_dv, I3_rm, I3_mx, I3_mn, I3_ab, cI, bI_0, bI_1, rZ_b, up_same, up_row, up_col, xr_some, LQ_r, LQ_l, Int.sub_self, Int.add_zero, Int.zero_add, Int.sub_zero, Int.neg_neg, not_true_eq_false, not_false_eq_true, Int.add_sub_cancel, ↓ite_iH, iH_t, iH_f, bH_iH, ↓bH_bind, xr_iH, ↓xr_bind, W_iH, WI_t, WI_f, gI_189, pI_189, iO_189, gR_189_0, aI_190, sI_190, gR_189_1, aI_191, sI_191, gR_189_3, aI_192, gR_189_10, aI_193, sI_193, gR_189_11, aI_194, sI_194, gR_189_13, aI_195, sI_195, gR_189_15, aI_196, sI_196, gR_189_17, aI_197, sI_197, gR_189_18, aI_198, sI_198, gR_189_19, aI_199, sI_199, gR_189_20, aI_200, sI_200, gR_189_23, aI_201, gR_189_24, aI_202, sI_202, gR_189_25, aI_203, sI_203, gR_189_29, aI_204, sI_204, gR_189_32, aI_205, sI_205, gR_189_35, aI_206, sI_206, pZ_189, gL_189, pL_189]
      refine W_bH (W_imp (n_takes hA1) ?_)
      rintro _ ⟨z2, l2, rfl, a2, b2⟩
      have h92 := b2.1
      simp (disch := first | assumption | omega) only [↓b_hid, bH_some, ↓hid_W, W_some, I3_a, I3_s, I3_m, I3_n, I3_l, I3_lt, I3_le, I3_e, I3_dv, I3_rm, I3_mx, I3_mn, I3_ab, cI, bI_0, bI_1, rZ_b, up_same, up_row, up_col, xr_some, LQ_r, LQ_l, Int.sub_self, Int.add_zero, Int.zero_add, Int.sub_zero, Int.neg_neg, not_true_eq_false, not_false_eq_true, Int.add_sub_cancel, ↓ite_iH, iH_t, iH_f, bH_iH, ↓bH_bind, xr_iH, ↓xr_bind, W_iH, WI_t, WI_f, gI_189, pI_189, iO_189, gR_189_0, aI_190, sI_190, gR_189_1, aI_191, sI_191, gR_189_3, aI_192, gR_189_10, aI_193, sI_193, gR_189_11, aI_194, sI_194, gR_189_13, aI_195, sI_195, gR_189_15, aI_196, sI_196, gR_189_17, aI_197, sI_197, gR_189_18, aI_198, sI_198, gR_189_19, aI_199, sI_199, gR_189_20, aI_200, sI_200, gR_189_23, aI_201, gR_189_24, aI_202, sI_202, gR_189_25, aI_203, sI_203, gR_189_29, aI_204, sI_204, gR_189_32, aI_205, sI_205, gR_189_35, aI_206, sI_206, pZ_189, gL_189, pL_189, h92, iH_pos, iH_neg, WI_pos, WI_neg]
      exact ⟨z2, l2, rfl, FrI_t hF (FrI_M (FrM_t hF1 a2)), Or.inl ⟨_, rfl, b2⟩⟩
    by_cases hK : tkK T q1 = 2
    · have hv := tkV_r hT b0.1 b0.2 hK
      have e8 := g8 hK
      rw [hK] at g7
      by_cases h65 : tkV T q1 < 65536
      · have gc := m_isCode (p := p) (z := z1) (l := l1) (q := x) (c := tkV T q1) (by omega) (by omega) (by rw [e6]; omega) (by rw [e6]; omega) (by omega) (by omega)
        rw [e6] at gc
        by_cases hc : tkV T q1 < pw (Fσ τ x.toNat 6)
        · have hn : nOk T 0 (pw (Fσ τ x.toNat 6) - 1) q1 := ⟨hK, by omega, by omega⟩
          rw [rdT_t hn]
          rw [bI_t ⟨hv.1, hc⟩] at gc
          have i1 := m_identity (p := p) (z := z1) (l := l1) (x := x) (c := tkV T q1) hτ1 hV (by omega) (by omega) hv.1
          have hir := idn_r (f := Fσ τ x.toNat) hv.1
          generalize hid : idn (Fσ τ x.toNat) (tkV T q1) = y at *
          have i2 := m_buttonOf (p := p) (z := z1) (l := l1) (x := x) (y := y) hτ1 hV (by omega) (by omega) (by omega) (by omega)
          have hfr := fBσ_r hV x y
          by_cases hb : fBσ τ x y = -9
          · rw [if_pos hb]
            rw [hb] at i2
            simp (disch := first | assumption | omega) only [↓b_hid, bH_some, ↓hid_W, W_some, I3_a, I3_s, I3_m, I3_n, I3_l, I3_lt, I3_le, I3_e, I3_dv, I3_rm, I3_mx, I3_mn, I3_ab, cI, bI_0, bI_1, rZ_b, up_same, up_row, up_col, xr_some, LQ_r, LQ_l, Int.sub_self, Int.add_zero, Int.zero_add, Int.sub_zero, Int.neg_neg, not_true_eq_false, not_false_eq_true, Int.add_sub_cancel, ↓ite_iH, iH_t, iH_f, bH_iH, ↓bH_bind, xr_iH, ↓xr_bind, W_iH, WI_t, WI_f, gI_189, pI_189, iO_189, gR_189_0, aI_190, sI_190, gR_189_1, aI_191, sI_191, gR_189_3, aI_192, gR_189_10, aI_193, sI_193, gR_189_11, aI_194, sI_194, gR_189_13, aI_195, sI_195, gR_189_15, aI_196, sI_196, gR_189_17, aI_197, sI_197, gR_189_18, aI_198, sI_198, gR_189_19, aI_199, sI_199, gR_189_20, aI_200, sI_200, gR_189_23, aI_201, gR_189_24, aI_202, sI_202, gR_189_25, aI_203, sI_203, gR_189_29, aI_204, sI_204, gR_189_32, aI_205, sI_205, gR_189_35, aI_206, sI_206, pZ_189, gL_189, pL_189, h9, g7, e8, lg_ge, I6_l, to32, f_X12_readsButton_49, gc, f_X12_readsButton_68, i1, f_X12_readsButton_83, i2, f_X12_readsButton_107, iH_pos, iH_neg, WI_pos, WI_neg]
            refine W_bH (W_imp (y_takes hT hM1 b0.1 b0.2 hA1) ?_)
            rintro _ ⟨z2, l2, rfl, a2, b2⟩
            have h92 := b2.1
            have hτ2 : z2 190 = τ := (a2.1 190 (by decide)).trans hτ1
            simp (disch := first | assumption | omega) only [↓b_hid, bH_some, ↓hid_W, W_some, I3_a, I3_s, I3_m, I3_n, I3_l, I3_lt, I3_le, I3_e, I3_dv, I3_rm, I3_mx, I3_mn, I3_ab, cI, bI_0, bI_1, rZ_b, up_same, up_row, up_col, xr_some, LQ_r, LQ_l, Int.sub_self, Int.add_zero, Int.zero_add, Int.sub_zero, Int.neg_neg, not_true_eq_false, not_false_eq_true, Int.add_sub_cancel, ↓ite_iH, iH_t, iH_f, bH_iH, ↓bH_bind, xr_iH, ↓xr_bind, W_iH, WI_t, WI_f, gI_189, pI_189, iO_189, gR_189_0, aI_190, sI_190, gR_189_1, aI_191, sI_191, gR_189_3, aI_192, gR_189_10, aI_193, sI_193, gR_189_11, aI_194, sI_194, gR_189_13, aI_195, sI_195, gR_189_15, aI_196, sI_196, gR_189_17, aI_197, sI_197, gR_189_18, aI_198, sI_198, gR_189_19, aI_199, sI_199, gR_189_20, aI_200, sI_200, gR_189_23, aI_201, gR_189_24, aI_202, sI_202, gR_189_25, aI_203, sI_203, gR_189_29, aI_204, sI_204, gR_189_32, aI_205, sI_205, gR_189_35, aI_206, sI_206, pZ_189, gL_189, pL_189, h92, iH_pos, iH_neg, WI_pos, WI_neg]
            refine W_bH (W_imp (m_addsB (x := x) (y := y) hτ2 v58.1 h12) ?_)
            rintro _ ⟨z3, rfl, c1, c2⟩
            simp (disch := first | assumption | omega) only [↓b_hid, bH_some, ↓hid_W, W_some, I3_a, I3_s, I3_m, I3_n, I3_l, I3_lt, I3_le, I3_e, I3_dv, I3_rm, I3_mx, I3_mn, I3_ab, cI, bI_0, bI_1, rZ_b, up_same, up_row, up_col, xr_some, LQ_r, LQ_l, Int.sub_self, Int.add_zero, Int.zero_add, Int.sub_zero, Int.neg_neg, not_true_eq_false, not_false_eq_true, Int.add_sub_cancel, ↓ite_iH, iH_t, iH_f, bH_iH, ↓bH_bind, xr_iH, ↓xr_bind, W_iH, WI_t, WI_f]
            refine ⟨z3, l2, rfl, FrI_t hF (FrI_t (FrI_M (FrM_t hF1 a2)) (FrI_o c2)), Or.inr ⟨_, addB τ x y, ⟨?_, ?_⟩, b1, c1, V_addB hV h12 (by omega) (by omega), rfl⟩⟩
            · rw [c2 189 (by decide)]; exact h92
            · have h := b2.2
              unfold Tk at h ⊢
              rw [c2 189 (by decide)]; exact h
          · rw [if_neg hb]
            simp (disch := first | assumption | omega) only [↓b_hid, bH_some, ↓hid_W, W_some, I3_a, I3_s, I3_m, I3_n, I3_l, I3_lt, I3_le, I3_e, I3_dv, I3_rm, I3_mx, I3_mn, I3_ab, cI, bI_0, bI_1, rZ_b, up_same, up_row, up_col, xr_some, LQ_r, LQ_l, Int.sub_self, Int.add_zero, Int.zero_add, Int.sub_zero, Int.neg_neg, not_true_eq_false, not_false_eq_true, Int.add_sub_cancel, ↓ite_iH, iH_t, iH_f, bH_iH, ↓bH_bind, xr_iH, ↓xr_bind, W_iH, WI_t, WI_f, gI_189, pI_189, iO_189, gR_189_0, aI_190, sI_190, gR_189_1, aI_191, sI_191, gR_189_3, aI_192, gR_189_10, aI_193, sI_193, gR_189_11, aI_194, sI_194, gR_189_13, aI_195, sI_195, gR_189_15, aI_196, sI_196, gR_189_17, aI_197, sI_197, gR_189_18, aI_198, sI_198, gR_189_19, aI_199, sI_199, gR_189_20, aI_200, sI_200, gR_189_23, aI_201, gR_189_24, aI_202, sI_202, gR_189_25, aI_203, sI_203, gR_189_29, aI_204, sI_204, gR_189_32, aI_205, sI_205, gR_189_35, aI_206, sI_206, pZ_189, gL_189, pL_189, h9, g7, e8, lg_ge, I6_l, to32, f_X12_readsButton_49, gc, f_X12_readsButton_68, i1, f_X12_readsButton_83, i2, f_X12_readsButton_106, f_X12_readsButton_107, iH_pos, iH_neg, WI_pos, WI_neg]
            refine W_bH (W_imp (n_takes hA1) ?_)
            rintro _ ⟨z2, l2, rfl, a2, b2⟩
            have h92 := b2.1
            simp (disch := first | assumption | omega) only [↓b_hid, bH_some, ↓hid_W, W_some, I3_a, I3_s, I3_m, I3_n, I3_l, I3_lt, I3_le, I3_e, I3_dv, I3_rm, I3_mx, I3_mn, I3_ab, cI, bI_0, bI_1, rZ_b, up_same, up_row, up_col, xr_some, LQ_r, LQ_l, Int.sub_self, Int.add_zero, Int.zero_add, Int.sub_zero, Int.neg_neg, not_true_eq_false, not_false_eq_true, Int.add_sub_cancel, ↓ite_iH, iH_t, iH_f, bH_iH, ↓bH_bind, xr_iH, ↓xr_bind, W_iH, WI_t, WI_f, gI_189, pI_189, iO_189, gR_189_0, aI_190, sI_190, gR_189_1, aI_191, sI_191, gR_189_3, aI_192, gR_189_10, aI_193, sI_193, gR_189_11, aI_194, sI_194, gR_189_13, aI_195, sI_195, gR_189_15, aI_196, sI_196, gR_189_17, aI_197, sI_197, gR_189_18, aI_198, sI_198, gR_189_19, aI_199, sI_199, gR_189_20, aI_200, sI_200, gR_189_23, aI_201, gR_189_24, aI_202, sI_202, gR_189_25, aI_203, sI_203, gR_189_29, aI_204, sI_204, gR_189_32, aI_205, sI_205, gR_189_35, aI_206, sI_206, pZ_189, gL_189, pL_189, h92, iH_pos, iH_neg, WI_pos, WI_neg]
            exact ⟨z2, l2, rfl, FrI_t hF (FrI_M (FrM_t hF1 a2)), Or.inl ⟨_, rfl, b2⟩⟩
        · rw [bI_f (fun h => hc h.2)] at gc
          have := no (fun h => by have := h.2; omega)
          simp (disch := first | assumption | omega) only [↓b_hid, bH_some, ↓hid_W, W_some, I3_a, I3_s, I3_m, I3_n, I3_l, I3_lt, I3_le, I3_e, I3_dv, I3_rm, I3_mx, I3_mn, I3_ab, cI, bI_0, bI_1, rZ_b, up_same, up_row, up_col, xr_some, LQ_r, LQ_l, Int.sub_self, Int.add_zero, Int.zero_add, Int.sub_zero, Int.neg_neg, not_true_eq_false, not_false_eq_true, Int.add_sub_cancel, ↓ite_iH, iH_t, iH_f, bH_iH, ↓bH_bind, xr_iH, ↓xr_bind, W_iH, WI_t, WI_f, gI_189, pI_189, iO_189, gR_189_0, aI_190, sI_190, gR_189_1, aI_191, sI_191, gR_189_3, aI_192, gR_189_10, aI_193, sI_193, gR_189_11, aI_194, sI_194, gR_189_13, aI_195, sI_195, gR_189_15, aI_196, sI_196, gR_189_17, aI_197, sI_197, gR_189_18, aI_198, sI_198, gR_189_19, aI_199, sI_199, gR_189_20, aI_200, sI_200, gR_189_23, aI_201, gR_189_24, aI_202, sI_202, gR_189_25, aI_203, sI_203, gR_189_29, aI_204, sI_204, gR_189_32, aI_205, sI_205, gR_189_35, aI_206, sI_206, pZ_189, gL_189, pL_189, h9, g7, e8, lg_ge, I6_l, to32, f_X12_readsButton_49, gc, f_X12_readsButton_67, f_X12_readsButton_68, f_X12_readsButton_83, iH_pos, iH_neg, WI_pos, WI_neg]
          exact this
      · have := no (fun h => by have := h.2; omega)
        simp (disch := first | assumption | omega) only [↓b_hid, bH_some, ↓hid_W, W_some, I3_a, I3_s, I3_m, I3_n, I3_l, I3_lt, I3_le, I3_e, I3_dv, I3_rm, I3_mx, I3_mn, I3_ab, cI, bI_0, bI_1, rZ_b, up_same, up_row, up_col, xr_some, LQ_r, LQ_l, Int.sub_self, Int.add_zero, Int.zero_add, Int.sub_zero, Int.neg_neg, not_true_eq_false, not_false_eq_true, Int.add_sub_cancel, ↓ite_iH, iH_t, iH_f, bH_iH, ↓bH_bind, xr_iH, ↓xr_bind, W_iH, WI_t, WI_f, gI_189, pI_189, iO_189, gR_189_0, aI_190, sI_190, gR_189_1, aI_191, sI_191, gR_189_3, aI_192, gR_189_10, aI_193, sI_193, gR_189_11, aI_194, sI_194, gR_189_13, aI_195, sI_195, gR_189_15, aI_196, sI_196, gR_189_17, aI_197, sI_197, gR_189_18, aI_198, sI_198, gR_189_19, aI_199, sI_199, gR_189_20, aI_200, sI_200, gR_189_23, aI_201, gR_189_24, aI_202, sI_202, gR_189_25, aI_203, sI_203, gR_189_29, aI_204, sI_204, gR_189_32, aI_205, sI_205, gR_189_35, aI_206, sI_206, pZ_189, gL_189, pL_189, h9, g7, e8, lg_ge, I6_l, f_X12_readsButton_48, f_X12_readsButton_49, f_X12_readsButton_67, f_X12_readsButton_68, f_X12_readsButton_83, iH_pos, iH_neg, WI_pos, WI_neg]
        exact this
    · have := no (fun h => hK h.1)
      simp (disch := first | assumption | omega) only [↓b_hid, bH_some, ↓hid_W, W_some, I3_a, I3_s, I3_m, I3_n, I3_l, I3_lt, I3_le, I3_e, I3_dv, I3_rm, I3_mx, I3_mn, I3_ab, cI, bI_0, bI_1, rZ_b, up_same, up_row, up_col, xr_some, LQ_r, LQ_l, Int.sub_self, Int.add_zero, Int.zero_add, Int.sub_zero, Int.neg_neg, not_true_eq_false, not_false_eq_true, Int.add_sub_cancel, ↓ite_iH, iH_t, iH_f, bH_iH, ↓bH_bind, xr_iH, ↓xr_bind, W_iH, WI_t, WI_f, gI_189, pI_189, iO_189, gR_189_0, aI_190, sI_190, gR_189_1, aI_191, sI_191, gR_189_3, aI_192, gR_189_10, aI_193, sI_193, gR_189_11, aI_194, sI_194, gR_189_13, aI_195, sI_195, gR_189_15, aI_196, sI_196, gR_189_17, aI_197, sI_197, gR_189_18, aI_198, sI_198, gR_189_19, aI_199, sI_199, gR_189_20, aI_200, sI_200, gR_189_23, aI_201, gR_189_24, aI_202, sI_202, gR_189_25, aI_203, sI_203, gR_189_29, aI_204, sI_204, gR_189_32, aI_205, sI_205, gR_189_35, aI_206, sI_206, pZ_189, gL_189, pL_189, h9, g7, f_X12_readsButton_48, f_X12_readsButton_49, f_X12_readsButton_67, f_X12_readsButton_68, f_X12_readsButton_83, iH_pos, iH_neg, WI_pos, WI_neg]
      exact this
  case _ =>
    have h9 := w1.1
    simp (disch := first | assumption | omega) only [↓b_hid, bH_some, ↓hid_W, W_some, I3_a, I3_s, I3_m, I3_n, I3_l, I3_lt, I3_le, I3_e, I3_dv, I3_rm, I3_mx, I3_mn, I3_ab, cI, bI_0, bI_1, rZ_b, up_same, up_row, up_col, xr_some, LQ_r, LQ_l, Int.sub_self, Int.add_zero, Int.zero_add, Int.sub_zero, Int.neg_neg, not_true_eq_false, not_false_eq_true, Int.add_sub_cancel, ↓ite_iH, iH_t, iH_f, bH_iH, ↓bH_bind, xr_iH, ↓xr_bind, W_iH, WI_t, WI_f, gI_189, pI_189, iO_189, gR_189_0, aI_190, sI_190, gR_189_1, aI_191, sI_191, gR_189_3, aI_192, gR_189_10, aI_193, sI_193, gR_189_11, aI_194, sI_194, gR_189_13, aI_195, sI_195, gR_189_15, aI_196, sI_196, gR_189_17, aI_197, sI_197, gR_189_18, aI_198, sI_198, gR_189_19, aI_199, sI_199, gR_189_20, aI_200, sI_200, gR_189_23, aI_201, gR_189_24, aI_202, sI_202, gR_189_25, aI_203, sI_203, gR_189_29, aI_204, sI_204, gR_189_32, aI_205, sI_205, gR_189_35, aI_206, sI_206, pZ_189, gL_189, pL_189, h9, f_X12_readsButton_48, f_X12_readsButton_49, f_X12_readsButton_67, f_X12_readsButton_68, f_X12_readsButton_83, f_X12_readsButton_106, f_X12_readsButton_107, iH_pos, iH_neg, WI_pos, WI_neg]
    refine W_bH (W_imp (d_takes _ w1) ?_)
    rintro _ ⟨z2, l2, rfl, a2, b2⟩
    have h92 := b2.1
    simp (disch := first | assumption | omega) only [↓b_hid, bH_some, ↓hid_W, W_some, I3_a, I3_s, I3_m, I3_n, I3_l, I3_lt, I3_le, I3_e, I3_dv, I3_rm, I3_mx, I3_mn, I3_ab, cI, bI_0, bI_1, rZ_b, up_same, up_row, up_col, xr_some, LQ_r, LQ_l, Int.sub_self, Int.add_zero, Int.zero_add, Int.sub_zero, Int.neg_neg, not_true_eq_false, not_false_eq_true, Int.add_sub_cancel, ↓ite_iH, iH_t, iH_f, bH_iH, ↓bH_bind, xr_iH, ↓xr_bind, W_iH, WI_t, WI_f, gI_189, pI_189, iO_189, gR_189_0, aI_190, sI_190, gR_189_1, aI_191, sI_191, gR_189_3, aI_192, gR_189_10, aI_193, sI_193, gR_189_11, aI_194, sI_194, gR_189_13, aI_195, sI_195, gR_189_15, aI_196, sI_196, gR_189_17, aI_197, sI_197, gR_189_18, aI_198, sI_198, gR_189_19, aI_199, sI_199, gR_189_20, aI_200, sI_200, gR_189_23, aI_201, gR_189_24, aI_202, sI_202, gR_189_25, aI_203, sI_203, gR_189_29, aI_204, sI_204, gR_189_32, aI_205, sI_205, gR_189_35, aI_206, sI_206, pZ_189, gL_189, pL_189, h92, iH_pos, iH_neg, WI_pos, WI_neg]
    exact ⟨z2, l2, rfl, FrI_t hF (FrI_M (FrM_t hF1 a2)), Or.inl ⟨_, rfl, b2⟩⟩
end
