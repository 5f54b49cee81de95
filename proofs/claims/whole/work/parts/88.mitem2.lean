/-! The model reads a protocol, a button. -/
section
variable {p : Nat → Nat} {z l : Nat → Int → Int}
def FrI (z z' : Nat → Int → Int) : Prop := (∀ k, k ≠ 189 → k ≠ 190 → z' k = z k) ∧ ∀ j, j ≠ 5 → j ≠ 6 → j ≠ 7 → j ≠ 9 → z' 189 j = z 189 j
theorem FrI_M {z z' : Nat → Int → Int} (h : FrM z z') : FrI z z' := ⟨fun k h1 _ => h.1 k h1, h.2⟩
theorem FrI_t {z z' z'' : Nat → Int → Int} (h : FrI z z') (h' : FrI z' z'') : FrI z z'' := ⟨fun k h1 h2 => (h'.1 k h1 h2).trans (h.1 k h1 h2), fun j a b c d => (h'.2 j a b c d).trans (h.2 j a b c d)⟩
theorem FrI_r (z : Nat → Int → Int) : FrI z z := ⟨fun _ _ _ => rfl, fun _ _ _ _ _ => rfl⟩
theorem FrI_o {z z' : Nat → Int → Int} (h : ∀ k, k ≠ 190 → z' k = z k) : FrI z z' := ⟨fun k _ h2 => h k h2, fun j _ _ _ _ => by rw [h 189 (by decide)]⟩
theorem MtB_I {z z' : Nat → Int → Int} {T : Tx} (h : FrI z z') (hC : MtB z T) : MtB z' T := ⟨(h.2 4 (by decide) (by decide) (by decide) (by decide)).trans hC.1, by rw [h.1 192 (by decide) (by decide)]; exact hC.2⟩
/-- before the ";" -/
def QM (p : Nat → Nat) (T : Tx) (z0 : Nat → Int → Int) (R : RT) (μ : MS) : Prop := ∃ z' l', μ = M p z' l' ∧ FrI z0 z' ∧ ((∃ e, R = .inl e ∧ Mw e z') ∨ (∃ q9 τ', Ma T q9 z' l' ∧ (0 ≤ q9 ∧ q9 ≤ T.1) ∧ z' 190 = τ' ∧ V τ' ∧ R = if tkK T q9 = 3 then .inr (tkE T q9, τ') else .inl (tkS T q9)))
theorem QM_w {T : Tx} {z0 : Nat → Int → Int} {e : Int} {μ : MS} (hF : FrI z0 z) (h : Qwr p e z μ) : QM p T z0 (.inl e) μ := by
  obtain ⟨z', l', rfl, a, b⟩ := h
  exact ⟨z', l', rfl, FrI_t hF (FrI_M a), Or.inl ⟨e, rfl, b⟩⟩
theorem m_rdN {T : Tx} {q lo hi : Int} {kf : Int → Int → RT} {K : Int32 × MS → Option MS} {Q : RT → MS → Prop} (hT : Tg T) (hM : MtB z T) (h0 : 0 ≤ q) (h1 : q ≤ T.1) (h : Ma T q z l) (hlo : 0 ≤ lo ∧ lo ≤ 1000000) (hhi : -1000000 ≤ hi ∧ hi ≤ 1000000) (hok : ∀ z' l', FrM z z' → MtB z' T → Ma T (tkE T q) z' l' → nOk T lo hi q → WP (K (I3 (tkV T q), M p z' l')) (Q (kf (tkV T q) (tkE T q)))) (hno : ∀ (x : Int32) z' l', FrM z z' → Mw (tkS T q) z' → WP (K (x, M p z' l')) (Q (.inl (tkS T q)))) : WP (bH (f_X12_takesNumber 189 (I3 lo) (I3 hi) (M p z l)) (@hidI _ ⟨K⟩)) (Q (rdT T lo hi q kf)) := by
  refine W_bH (W_imp (m_takesN hT hM h0 h1 h hlo hhi) ?_)
  rintro ⟨x, μ⟩ (⟨hn, z', l', hr, a, b⟩ | ⟨hn, z', l', hr, a, b⟩)
  · obtain ⟨rfl, rfl⟩ := Prod.mk.inj hr
    rw [rdT_t hn]; exact hok z' l' a (MtB_M a hM) b hn
  · simp only at hr
    subst hr
    rw [rdT_f hn]; exact hno x z' l' a b
def midP (σ : Int → Int) (k b o r : Int) : Int → Int := fun j => if j = 3 then σ 3 + 1 else if j = 4 + 9 * σ 3 then k else if j = 4 + 9 * σ 3 + 6 then b else if j = 4 + 9 * σ 3 + 7 then o else if j = 4 + 9 * σ 3 + 8 then r else σ j
theorem w_addsP {σ : Int → Int} {k b o r : Int} (hσ : z 190 = σ) (h0 : 0 ≤ σ 3) (h6 : σ 3 < 6) : WP (f_X12_addsProtocol 189 (I3 k) (I3 b) (I3 o) (I3 r) (M p z l)) (fun μ => ∃ z', μ = M p z' l ∧ z' 190 = midP σ k b o r ∧ ∀ c, c ≠ 190 → z' c = z c) := by
  refine W_imp (eq_W (m_addsP hσ h0 h6)) ?_
  rintro _ rfl
  refine ⟨_, rfl, ?_, fun c hc => by simp (disch := omega) only [up_row]⟩
  funext j
  unfold midP
  by_cases h3 : j = 3
  · rw [if_pos h3, h3, up_same]
  · rw [if_neg h3, up_col h3]
    by_cases a8 : j = 4 + 9 * σ 3 + 8
    · rw [a8, up_same, if_neg (by omega), if_neg (by omega), if_neg (by omega), if_pos rfl]
    · rw [up_col a8]
      by_cases a7 : j = 4 + 9 * σ 3 + 7
      · rw [a7, up_same, if_neg (by omega), if_neg (by omega), if_pos rfl]
      · rw [up_col a7]
        by_cases a6 : j = 4 + 9 * σ 3 + 6
        · rw [a6, up_same, if_neg (by omega), if_pos rfl]
        · rw [up_col a6]
          by_cases a0 : j = 4 + 9 * σ 3
          · rw [a0, up_same, if_pos rfl]
          · rw [up_col a0, if_neg a0, if_neg a6, if_neg a7, if_neg a8, hσ]
theorem w_setsL {σ : Int → Int} {k b o r h s a x y : Int} (hσ : z 190 = midP σ k b o r) (h0 : 0 ≤ σ 3) (h6 : σ 3 < 6) : WP (f_X12_setsLengths 189 (I3 (σ 3)) (I3 h) (I3 s) (I3 a) (I3 x) (I3 y) (M p z l)) (fun μ => ∃ z', μ = M p z' l ∧ z' 190 = addP σ k b o r h s a x y ∧ ∀ c, c ≠ 190 → z' c = z c) := by
  refine W_imp (eq_W (m_setsL h0 h6)) ?_
  rintro _ rfl
  refine ⟨_, rfl, ?_, fun c hc => by simp (disch := omega) only [up_row]⟩
  funext j
  by_cases a5 : j = 4 + 9 * σ 3 + 5
  · rw [a5, up_same, (addP_n h0).2.2.2.2.2.1]
  · rw [up_col a5]
    by_cases a4 : j = 4 + 9 * σ 3 + 4
    · rw [a4, up_same, (addP_n h0).2.2.2.2.1]
    · rw [up_col a4]
      by_cases a3 : j = 4 + 9 * σ 3 + 3
      · rw [a3, up_same, (addP_n h0).2.2.2.1]
      · rw [up_col a3]
        by_cases a2 : j = 4 + 9 * σ 3 + 2
        · rw [a2, up_same, (addP_n h0).2.2.1]
        · rw [up_col a2]
          by_cases a1 : j = 4 + 9 * σ 3 + 1
          · rw [a1, up_same, (addP_n h0).2.1]
          · rw [up_col a1, hσ]
            unfold midP addP
            by_cases h3 : j = 3
            · rw [if_pos h3, if_pos h3]
            · rw [if_neg h3, if_neg h3]
              by_cases a0 : j = 4 + 9 * σ 3
              · rw [if_pos a0, if_pos a0]
              · rw [if_neg a0, if_neg a0, if_neg a1, if_neg a2, if_neg a3, if_neg a4, if_neg a5]
set_option maxHeartbeats 8000000 in
theorem m_143 {T : Tx} {z0 : Nat → Int → Int} {τ : Int → Int} {q kd h s a b lo hi : Int} (hT : Tg T) (hF : FrI z0 z) (hM : MtB z T) (h0 : 0 ≤ q) (h1 : q ≤ T.1) (hA : Ma T q z l) (hτ : z 190 = τ) (hV : V τ) (h6 : τ 3 < 6) (hk : 0 ≤ kd ∧ kd ≤ 2) (hh : 50 ≤ h ∧ h ≤ 20000) (hs : 50 ≤ s ∧ s ≤ 20000) (ha : 50 ≤ a ∧ a ≤ 20000) (hlh : 0 ≤ lo ∧ lo ≤ 50 ∧ 0 ≤ hi ∧ hi ≤ 20000 ∧ (kd = 2 → lo = 0 ∧ hi = 0) ∧ (kd ≠ 2 → lo = 50)) (hb : lo ≤ b ∧ b ≤ hi) : WP (f_X12_readsProtocol_143 189 (I3 kd) (I3 h) (I3 s) (I3 a) (I3 b) (I3 hi) (I3 lo) 189 (M p z l)) (QM p T z0 (rdT T lo hi q fun c q6 => pP3 T τ kd h s a b c q6)) := by
  have v3 := hV.2.2.2.1
  have b0 := tkE_b hT h0 h1
  unfold f_X12_readsProtocol_143
  simp (disch := first | assumption | omega) only [↓b_hid, bH_some, ↓hid_W, W_some, I3_a, I3_s, I3_m, I3_n, I3_l, I3_lt, I3_le, I3_e, I3_dv, I3_rm, I3_mx, I3_mn, I3_ab, cI, bI_0, bI_1, rZ_b, up_same, up_row, up_col, xr_some, LQ_r, LQ_l, Int.sub_self, Int.add_zero, Int.zero_add, Int.sub_zero, Int.neg_neg, not_true_eq_false, not_false_eq_true, Int.add_sub_cancel, ↓ite_iH, iH_t, iH_f, bH_iH, ↓bH_bind, xr_iH, ↓xr_bind, W_iH, WI_t, WI_f, gI_189, pI_189, iO_189, gR_189_0, aI_190, sI_190, gR_189_1, aI_191, sI_191, gR_189_3, aI_192, gR_189_10, aI_193, sI_193, gR_189_11, aI_194, sI_194, gR_189_13, aI_195, sI_195, gR_189_15, aI_196, sI_196, gR_189_17, aI_197, sI_197, gR_189_18, aI_198, sI_198, gR_189_19, aI_199, sI_199, gR_189_20, aI_200, sI_200, gR_189_23, aI_201, gR_189_24, aI_202, sI_202, gR_189_25, aI_203, sI_203, gR_189_29, aI_204, sI_204, gR_189_32, aI_205, sI_205, gR_189_35, aI_206, sI_206, pZ_189, gL_189, pL_189]
  refine m_rdN (Q := QM p T z0) hT hM h0 h1 hA (by omega) (by omega) (fun z1 l1 hF1 hM1 hA1 n1 => ?_) (fun x1 z1 l1 hF1 w1 => ?_)
  case _ =>
    have n1' := n1.2
    have b1 := tkE_b hT b0.1 b0.2
    unfold pP3
    simp (disch := first | assumption | omega) only [↓b_hid, bH_some, ↓hid_W, W_some, I3_a, I3_s, I3_m, I3_n, I3_l, I3_lt, I3_le, I3_e, I3_dv, I3_rm, I3_mx, I3_mn, I3_ab, cI, bI_0, bI_1, rZ_b, up_same, up_row, up_col, xr_some, LQ_r, LQ_l, Int.sub_self, Int.add_zero, Int.zero_add, Int.sub_zero, Int.neg_neg, not_true_eq_false, not_false_eq_true, Int.add_sub_cancel, ↓ite_iH, iH_t, iH_f, bH_iH, ↓bH_bind, xr_iH, ↓xr_bind, W_iH, WI_t, WI_f, gI_189, pI_189, iO_189, gR_189_0, aI_190, sI_190, gR_189_1, aI_191, sI_191, gR_189_3, aI_192, gR_189_10, aI_193, sI_193, gR_189_11, aI_194, sI_194, gR_189_13, aI_195, sI_195, gR_189_15, aI_196, sI_196, gR_189_17, aI_197, sI_197, gR_189_18, aI_198, sI_198, gR_189_19, aI_199, sI_199, gR_189_20, aI_200, sI_200, gR_189_23, aI_201, gR_189_24, aI_202, sI_202, gR_189_25, aI_203, sI_203, gR_189_29, aI_204, sI_204, gR_189_32, aI_205, sI_205, gR_189_35, aI_206, sI_206, pZ_189, gL_189, pL_189]
    refine m_rdN (Q := QM p T z0) hT hM1 b0.1 b0.2 hA1 (by decide) (by decide) (fun z2 l2 hF2 hM2 hA2 n2 => ?_) (fun x2 z2 l2 hF2 w2 => ?_)
    case _ =>
      have n2' := n2.2
      have b2 := tkE_b hT b1.1 b1.2
      simp (disch := first | assumption | omega) only [↓b_hid, bH_some, ↓hid_W, W_some, I3_a, I3_s, I3_m, I3_n, I3_l, I3_lt, I3_le, I3_e, I3_dv, I3_rm, I3_mx, I3_mn, I3_ab, cI, bI_0, bI_1, rZ_b, up_same, up_row, up_col, xr_some, LQ_r, LQ_l, Int.sub_self, Int.add_zero, Int.zero_add, Int.sub_zero, Int.neg_neg, not_true_eq_false, not_false_eq_true, Int.add_sub_cancel, ↓ite_iH, iH_t, iH_f, bH_iH, ↓bH_bind, xr_iH, ↓xr_bind, W_iH, WI_t, WI_f, gI_189, pI_189, iO_189, gR_189_0, aI_190, sI_190, gR_189_1, aI_191, sI_191, gR_189_3, aI_192, gR_189_10, aI_193, sI_193, gR_189_11, aI_194, sI_194, gR_189_13, aI_195, sI_195, gR_189_15, aI_196, sI_196, gR_189_17, aI_197, sI_197, gR_189_18, aI_198, sI_198, gR_189_19, aI_199, sI_199, gR_189_20, aI_200, sI_200, gR_189_23, aI_201, gR_189_24, aI_202, sI_202, gR_189_25, aI_203, sI_203, gR_189_29, aI_204, sI_204, gR_189_32, aI_205, sI_205, gR_189_35, aI_206, sI_206, pZ_189, gL_189, pL_189]
      refine m_rdN (Q := QM p T z0) hT hM2 b1.1 b1.2 hA2 (by decide) (by decide) (fun z3 l3 hF3 hM3 hA3 n3 => ?_) (fun x3 z3 l3 hF3 w3 => ?_)
      case _ =>
        have n3' := n3.2
        have b3 := tkE_b hT b2.1 b2.2
        simp (disch := first | assumption | omega) only [↓b_hid, bH_some, ↓hid_W, W_some, I3_a, I3_s, I3_m, I3_n, I3_l, I3_lt, I3_le, I3_e, I3_dv, I3_rm, I3_mx, I3_mn, I3_ab, cI, bI_0, bI_1, rZ_b, up_same, up_row, up_col, xr_some, LQ_r, LQ_l, Int.sub_self, Int.add_zero, Int.zero_add, Int.sub_zero, Int.neg_neg, not_true_eq_false, not_false_eq_true, Int.add_sub_cancel, ↓ite_iH, iH_t, iH_f, bH_iH, ↓bH_bind, xr_iH, ↓xr_bind, W_iH, WI_t, WI_f, gI_189, pI_189, iO_189, gR_189_0, aI_190, sI_190, gR_189_1, aI_191, sI_191, gR_189_3, aI_192, gR_189_10, aI_193, sI_193, gR_189_11, aI_194, sI_194, gR_189_13, aI_195, sI_195, gR_189_15, aI_196, sI_196, gR_189_17, aI_197, sI_197, gR_189_18, aI_198, sI_198, gR_189_19, aI_199, sI_199, gR_189_20, aI_200, sI_200, gR_189_23, aI_201, gR_189_24, aI_202, sI_202, gR_189_25, aI_203, sI_203, gR_189_29, aI_204, sI_204, gR_189_32, aI_205, sI_205, gR_189_35, aI_206, sI_206, pZ_189, gL_189, pL_189]
        refine m_rdN (Q := QM p T z0) hT hM3 b2.1 b2.2 hA3 (by decide) (by decide) (fun z4 l4 hF4 hM4 hA4 n4 => ?_) (fun x4 z4 l4 hF4 w4 => ?_)
        case _ =>
          have n4' := n4.2
          have b4 := tkE_b hT b3.1 b3.2
          have hF04 := FrM_t hF1 (FrM_t hF2 (FrM_t hF3 hF4))
          have hτ4 : z4 190 = τ := (hF04.1 190 (by decide)).trans hτ
          have h9 := hA4.1
          have e1 : τ 3 + 1 - 1 = τ 3 := by omega
          simp (disch := first | assumption | omega) only [↓b_hid, bH_some, ↓hid_W, W_some, I3_a, I3_s, I3_m, I3_n, I3_l, I3_lt, I3_le, I3_e, I3_dv, I3_rm, I3_mx, I3_mn, I3_ab, cI, bI_0, bI_1, rZ_b, up_same, up_row, up_col, xr_some, LQ_r, LQ_l, Int.sub_self, Int.add_zero, Int.zero_add, Int.sub_zero, Int.neg_neg, not_true_eq_false, not_false_eq_true, Int.add_sub_cancel, ↓ite_iH, iH_t, iH_f, bH_iH, ↓bH_bind, xr_iH, ↓xr_bind, W_iH, WI_t, WI_f, gI_189, pI_189, iO_189, gR_189_0, aI_190, sI_190, gR_189_1, aI_191, sI_191, gR_189_3, aI_192, gR_189_10, aI_193, sI_193, gR_189_11, aI_194, sI_194, gR_189_13, aI_195, sI_195, gR_189_15, aI_196, sI_196, gR_189_17, aI_197, sI_197, gR_189_18, aI_198, sI_198, gR_189_19, aI_199, sI_199, gR_189_20, aI_200, sI_200, gR_189_23, aI_201, gR_189_24, aI_202, sI_202, gR_189_25, aI_203, sI_203, gR_189_29, aI_204, sI_204, gR_189_32, aI_205, sI_205, gR_189_35, aI_206, sI_206, pZ_189, gL_189, pL_189, h9, iH_pos, iH_neg, WI_pos, WI_neg]
          refine W_bH (W_imp (w_addsP (k := kd) (b := tkV T (tkE T q)) (o := tkV T (tkE T (tkE T q))) (r := tkV T (tkE T (tkE T (tkE T q)))) hτ4 v3.1 h6) ?_)
          rintro _ ⟨z5, rfl, c1, c2⟩
          have e3 : z5 190 3 = τ 3 + 1 := by rw [c1]; unfold midP; rw [if_pos rfl]
          simp (disch := first | assumption | omega) only [↓b_hid, bH_some, ↓hid_W, W_some, I3_a, I3_s, I3_m, I3_n, I3_l, I3_lt, I3_le, I3_e, I3_dv, I3_rm, I3_mx, I3_mn, I3_ab, cI, bI_0, bI_1, rZ_b, up_same, up_row, up_col, xr_some, LQ_r, LQ_l, Int.sub_self, Int.add_zero, Int.zero_add, Int.sub_zero, Int.neg_neg, not_true_eq_false, not_false_eq_true, Int.add_sub_cancel, ↓ite_iH, iH_t, iH_f, bH_iH, ↓bH_bind, xr_iH, ↓xr_bind, W_iH, WI_t, WI_f, gI_189, pI_189, iO_189, gR_189_0, aI_190, sI_190, gR_189_1, aI_191, sI_191, gR_189_3, aI_192, gR_189_10, aI_193, sI_193, gR_189_11, aI_194, sI_194, gR_189_13, aI_195, sI_195, gR_189_15, aI_196, sI_196, gR_189_17, aI_197, sI_197, gR_189_18, aI_198, sI_198, gR_189_19, aI_199, sI_199, gR_189_20, aI_200, sI_200, gR_189_23, aI_201, gR_189_24, aI_202, sI_202, gR_189_25, aI_203, sI_203, gR_189_29, aI_204, sI_204, gR_189_32, aI_205, sI_205, gR_189_35, aI_206, sI_206, pZ_189, gL_189, pL_189, e3, e1]
          refine W_bH (W_imp (w_setsL (h := h) (s := s) (a := a) (x := b) (y := tkV T q) c1 v3.1 h6) ?_)
          rintro _ ⟨z6, rfl, d1, d2⟩
          simp (disch := first | assumption | omega) only [↓b_hid, bH_some, ↓hid_W, W_some, I3_a, I3_s, I3_m, I3_n, I3_l, I3_lt, I3_le, I3_e, I3_dv, I3_rm, I3_mx, I3_mn, I3_ab, cI, bI_0, bI_1, rZ_b, up_same, up_row, up_col, xr_some, LQ_r, LQ_l, Int.sub_self, Int.add_zero, Int.zero_add, Int.sub_zero, Int.neg_neg, not_true_eq_false, not_false_eq_true, Int.add_sub_cancel, ↓ite_iH, iH_t, iH_f, bH_iH, ↓bH_bind, xr_iH, ↓xr_bind, W_iH, WI_t, WI_f]
          have h189 : z6 189 = z4 189 := (d2 189 (by decide)).trans (c2 189 (by decide))
          have hVP : V (addP τ kd (tkV T (tkE T q)) (tkV T (tkE T (tkE T q))) (tkV T (tkE T (tkE T (tkE T q)))) h s a b (tkV T q)) := V_addP hV h6 hk n2' n3' n4' hh hs ha (by omega)
          have hFI : FrI z0 z6 := FrI_t hF (FrI_t (FrI_M hF04) (FrI_o (fun k hk => (d2 k hk).trans (c2 k hk))))
          have hMa : Ma T (tkE T (tkE T (tkE T (tkE T q)))) z6 l4 := by
            have h := hA4
            unfold Ma Tk at h ⊢
            rw [h189]; exact h
          exact ⟨z6, l4, rfl, hFI, Or.inr ⟨_, _, hMa, b3, d1, hVP, rfl⟩⟩
        case _ =>
          have h9 := w4.1
          simp (disch := first | assumption | omega) only [↓b_hid, bH_some, ↓hid_W, W_some, I3_a, I3_s, I3_m, I3_n, I3_l, I3_lt, I3_le, I3_e, I3_dv, I3_rm, I3_mx, I3_mn, I3_ab, cI, bI_0, bI_1, rZ_b, up_same, up_row, up_col, xr_some, LQ_r, LQ_l, Int.sub_self, Int.add_zero, Int.zero_add, Int.sub_zero, Int.neg_neg, not_true_eq_false, not_false_eq_true, Int.add_sub_cancel, ↓ite_iH, iH_t, iH_f, bH_iH, ↓bH_bind, xr_iH, ↓xr_bind, W_iH, WI_t, WI_f, gI_189, pI_189, iO_189, gR_189_0, aI_190, sI_190, gR_189_1, aI_191, sI_191, gR_189_3, aI_192, gR_189_10, aI_193, sI_193, gR_189_11, aI_194, sI_194, gR_189_13, aI_195, sI_195, gR_189_15, aI_196, sI_196, gR_189_17, aI_197, sI_197, gR_189_18, aI_198, sI_198, gR_189_19, aI_199, sI_199, gR_189_20, aI_200, sI_200, gR_189_23, aI_201, gR_189_24, aI_202, sI_202, gR_189_25, aI_203, sI_203, gR_189_29, aI_204, sI_204, gR_189_32, aI_205, sI_205, gR_189_35, aI_206, sI_206, pZ_189, gL_189, pL_189, h9, iH_pos, iH_neg, WI_pos, WI_neg]
          exact ⟨z4, l4, rfl, FrI_t hF (FrI_M (FrM_t hF1 (FrM_t hF2 (FrM_t hF3 hF4)))), Or.inl ⟨_, rfl, w4⟩⟩
      case _ =>
        simp (disch := first | assumption | omega) only [↓b_hid, bH_some, ↓hid_W, W_some, I3_a, I3_s, I3_m, I3_n, I3_l, I3_lt, I3_le, I3_e, I3_dv, I3_rm, I3_mx, I3_mn, I3_ab, cI, bI_0, bI_1, rZ_b, up_same, up_row, up_col, xr_some, LQ_r, LQ_l, Int.sub_self, Int.add_zero, Int.zero_add, Int.sub_zero, Int.neg_neg, not_true_eq_false, not_false_eq_true, Int.add_sub_cancel, ↓ite_iH, iH_t, iH_f, bH_iH, ↓bH_bind, xr_iH, ↓xr_bind, W_iH, WI_t, WI_f, gI_189, pI_189, iO_189, gR_189_0, aI_190, sI_190, gR_189_1, aI_191, sI_191, gR_189_3, aI_192, gR_189_10, aI_193, sI_193, gR_189_11, aI_194, sI_194, gR_189_13, aI_195, sI_195, gR_189_15, aI_196, sI_196, gR_189_17, aI_197, sI_197, gR_189_18, aI_198, sI_198, gR_189_19, aI_199, sI_199, gR_189_20, aI_200, sI_200, gR_189_23, aI_201, gR_189_24, aI_202, sI_202, gR_189_25, aI_203, sI_203, gR_189_29, aI_204, sI_204, gR_189_32, aI_205, sI_205, gR_189_35, aI_206, sI_206, pZ_189, gL_189, pL_189]
        refine W_bH (W_imp (d_takesN _ _ w3) ?_)
        rintro ⟨x4, _⟩ ⟨z4, l4, rfl, a4, b4⟩
        have h9 := b4.1
        simp (disch := first | assumption | omega) only [↓b_hid, bH_some, ↓hid_W, W_some, I3_a, I3_s, I3_m, I3_n, I3_l, I3_lt, I3_le, I3_e, I3_dv, I3_rm, I3_mx, I3_mn, I3_ab, cI, bI_0, bI_1, rZ_b, up_same, up_row, up_col, xr_some, LQ_r, LQ_l, Int.sub_self, Int.add_zero, Int.zero_add, Int.sub_zero, Int.neg_neg, not_true_eq_false, not_false_eq_true, Int.add_sub_cancel, ↓ite_iH, iH_t, iH_f, bH_iH, ↓bH_bind, xr_iH, ↓xr_bind, W_iH, WI_t, WI_f, gI_189, pI_189, iO_189, gR_189_0, aI_190, sI_190, gR_189_1, aI_191, sI_191, gR_189_3, aI_192, gR_189_10, aI_193, sI_193, gR_189_11, aI_194, sI_194, gR_189_13, aI_195, sI_195, gR_189_15, aI_196, sI_196, gR_189_17, aI_197, sI_197, gR_189_18, aI_198, sI_198, gR_189_19, aI_199, sI_199, gR_189_20, aI_200, sI_200, gR_189_23, aI_201, gR_189_24, aI_202, sI_202, gR_189_25, aI_203, sI_203, gR_189_29, aI_204, sI_204, gR_189_32, aI_205, sI_205, gR_189_35, aI_206, sI_206, pZ_189, gL_189, pL_189, h9, iH_pos, iH_neg, WI_pos, WI_neg]
        exact ⟨z4, l4, rfl, FrI_t hF (FrI_M (FrM_t hF1 (FrM_t hF2 (FrM_t hF3 a4)))), Or.inl ⟨_, rfl, b4⟩⟩
    case _ =>
      simp (disch := first | assumption | omega) only [↓b_hid, bH_some, ↓hid_W, W_some, I3_a, I3_s, I3_m, I3_n, I3_l, I3_lt, I3_le, I3_e, I3_dv, I3_rm, I3_mx, I3_mn, I3_ab, cI, bI_0, bI_1, rZ_b, up_same, up_row, up_col, xr_some, LQ_r, LQ_l, Int.sub_self, Int.add_zero, Int.zero_add, Int.sub_zero, Int.neg_neg, not_true_eq_false, not_false_eq_true, Int.add_sub_cancel, ↓ite_iH, iH_t, iH_f, bH_iH, ↓bH_bind, xr_iH, ↓xr_bind, W_iH, WI_t, WI_f, gI_189, pI_189, iO_189, gR_189_0, aI_190, sI_190, gR_189_1, aI_191, sI_191, gR_189_3, aI_192, gR_189_10, aI_193, sI_193, gR_189_11, aI_194, sI_194, gR_189_13, aI_195, sI_195, gR_189_15, aI_196, sI_196, gR_189_17, aI_197, sI_197, gR_189_18, aI_198, sI_198, gR_189_19, aI_199, sI_199, gR_189_20, aI_200, sI_200, gR_189_23, aI_201, gR_189_24, aI_202, sI_202, gR_189_25, aI_203, sI_203, gR_189_29, aI_204, sI_204, gR_189_32, aI_205, sI_205, gR_189_35, aI_206, sI_206, pZ_189, gL_189, pL_189]
      refine W_bH (W_imp (d_takesN _ _ w2) ?_)
      rintro ⟨x3, _⟩ ⟨z3, l3, rfl, a3, b3⟩
      simp (disch := first | assumption | omega) only [↓b_hid, bH_some, ↓hid_W, W_some, I3_a, I3_s, I3_m, I3_n, I3_l, I3_lt, I3_le, I3_e, I3_dv, I3_rm, I3_mx, I3_mn, I3_ab, cI, bI_0, bI_1, rZ_b, up_same, up_row, up_col, xr_some, LQ_r, LQ_l, Int.sub_self, Int.add_zero, Int.zero_add, Int.sub_zero, Int.neg_neg, not_true_eq_false, not_false_eq_true, Int.add_sub_cancel, ↓ite_iH, iH_t, iH_f, bH_iH, ↓bH_bind, xr_iH, ↓xr_bind, W_iH, WI_t, WI_f, gI_189, pI_189, iO_189, gR_189_0, aI_190, sI_190, gR_189_1, aI_191, sI_191, gR_189_3, aI_192, gR_189_10, aI_193, sI_193, gR_189_11, aI_194, sI_194, gR_189_13, aI_195, sI_195, gR_189_15, aI_196, sI_196, gR_189_17, aI_197, sI_197, gR_189_18, aI_198, sI_198, gR_189_19, aI_199, sI_199, gR_189_20, aI_200, sI_200, gR_189_23, aI_201, gR_189_24, aI_202, sI_202, gR_189_25, aI_203, sI_203, gR_189_29, aI_204, sI_204, gR_189_32, aI_205, sI_205, gR_189_35, aI_206, sI_206, pZ_189, gL_189, pL_189]
      refine W_bH (W_imp (d_takesN _ _ b3) ?_)
      rintro ⟨x4, _⟩ ⟨z4, l4, rfl, a4, b4⟩
      have h9 := b4.1
      simp (disch := first | assumption | omega) only [↓b_hid, bH_some, ↓hid_W, W_some, I3_a, I3_s, I3_m, I3_n, I3_l, I3_lt, I3_le, I3_e, I3_dv, I3_rm, I3_mx, I3_mn, I3_ab, cI, bI_0, bI_1, rZ_b, up_same, up_row, up_col, xr_some, LQ_r, LQ_l, Int.sub_self, Int.add_zero, Int.zero_add, Int.sub_zero, Int.neg_neg, not_true_eq_false, not_false_eq_true, Int.add_sub_cancel, ↓ite_iH, iH_t, iH_f, bH_iH, ↓bH_bind, xr_iH, ↓xr_bind, W_iH, WI_t, WI_f, gI_189, pI_189, iO_189, gR_189_0, aI_190, sI_190, gR_189_1, aI_191, sI_191, gR_189_3, aI_192, gR_189_10, aI_193, sI_193, gR_189_11, aI_194, sI_194, gR_189_13, aI_195, sI_195, gR_189_15, aI_196, sI_196, gR_189_17, aI_197, sI_197, gR_189_18, aI_198, sI_198, gR_189_19, aI_199, sI_199, gR_189_20, aI_200, sI_200, gR_189_23, aI_201, gR_189_24, aI_202, sI_202, gR_189_25, aI_203, sI_203, gR_189_29, aI_204, sI_204, gR_189_32, aI_205, sI_205, gR_189_35, aI_206, sI_206, pZ_189, gL_189, pL_189, h9, iH_pos, iH_neg, WI_pos, WI_neg]
      exact ⟨z4, l4, rfl, FrI_t hF (FrI_M (FrM_t hF1 (FrM_t hF2 (FrM_t a3 a4)))), Or.inl ⟨_, rfl, b4⟩⟩
  case _ =>
    simp (disch := first | assumption | omega) only [↓b_hid, bH_some, ↓hid_W, W_some, I3_a, I3_s, I3_m, I3_n, I3_l, I3_lt, I3_le, I3_e, I3_dv, I3_rm, I3_mx, I3_mn, I3_ab, cI, bI_0, bI_1, rZ_b, up_same, up_row, up_col, xr_some, LQ_r, LQ_l, Int.sub_self, Int.add_zero, Int.zero_add, Int.sub_zero, Int.neg_neg, not_true_eq_false, not_false_eq_true, Int.add_sub_cancel, ↓ite_iH, iH_t, iH_f, bH_iH, ↓bH_bind, xr_iH, ↓xr_bind, W_iH, WI_t, WI_f, gI_189, pI_189, iO_189, gR_189_0, aI_190, sI_190, gR_189_1, aI_191, sI_191, gR_189_3, aI_192, gR_189_10, aI_193, sI_193, gR_189_11, aI_194, sI_194, gR_189_13, aI_195, sI_195, gR_189_15, aI_196, sI_196, gR_189_17, aI_197, sI_197, gR_189_18, aI_198, sI_198, gR_189_19, aI_199, sI_199, gR_189_20, aI_200, sI_200, gR_189_23, aI_201, gR_189_24, aI_202, sI_202, gR_189_25, aI_203, sI_203, gR_189_29, aI_204, sI_204, gR_189_32, aI_205, sI_205, gR_189_35, aI_206, sI_206, pZ_189, gL_189, pL_189]
    refine W_bH (W_imp (d_takesN _ _ w1) ?_)
    rintro ⟨x2, _⟩ ⟨z2, l2, rfl, a2, b2⟩
    simp (disch := first | assumption | omega) only [↓b_hid, bH_some, ↓hid_W, W_some, I3_a, I3_s, I3_m, I3_n, I3_l, I3_lt, I3_le, I3_e, I3_dv, I3_rm, I3_mx, I3_mn, I3_ab, cI, bI_0, bI_1, rZ_b, up_same, up_row, up_col, xr_some, LQ_r, LQ_l, Int.sub_self, Int.add_zero, Int.zero_add, Int.sub_zero, Int.neg_neg, not_true_eq_false, not_false_eq_true, Int.add_sub_cancel, ↓ite_iH, iH_t, iH_f, bH_iH, ↓bH_bind, xr_iH, ↓xr_bind, W_iH, WI_t, WI_f, gI_189, pI_189, iO_189, gR_189_0, aI_190, sI_190, gR_189_1, aI_191, sI_191, gR_189_3, aI_192, gR_189_10, aI_193, sI_193, gR_189_11, aI_194, sI_194, gR_189_13, aI_195, sI_195, gR_189_15, aI_196, sI_196, gR_189_17, aI_197, sI_197, gR_189_18, aI_198, sI_198, gR_189_19, aI_199, sI_199, gR_189_20, aI_200, sI_200, gR_189_23, aI_201, gR_189_24, aI_202, sI_202, gR_189_25, aI_203, sI_203, gR_189_29, aI_204, sI_204, gR_189_32, aI_205, sI_205, gR_189_35, aI_206, sI_206, pZ_189, gL_189, pL_189]
    refine W_bH (W_imp (d_takesN _ _ b2) ?_)
    rintro ⟨x3, _⟩ ⟨z3, l3, rfl, a3, b3⟩
    simp (disch := first | assumption | omega) only [↓b_hid, bH_some, ↓hid_W, W_some, I3_a, I3_s, I3_m, I3_n, I3_l, I3_lt, I3_le, I3_e, I3_dv, I3_rm, I3_mx, I3_mn, I3_ab, cI, bI_0, bI_1, rZ_b, up_same, up_row, up_col, xr_some, LQ_r, LQ_l, Int.sub_self, Int.add_zero, Int.zero_add, Int.sub_zero, Int.neg_neg, not_true_eq_false, not_false_eq_true, Int.add_sub_cancel, ↓ite_iH, iH_t, iH_f, bH_iH, ↓bH_bind, xr_iH, ↓xr_bind, W_iH, WI_t, WI_f, gI_189, pI_189, iO_189, gR_189_0, aI_190, sI_190, gR_189_1, aI_191, sI_191, gR_189_3, aI_192, gR_189_10, aI_193, sI_193, gR_189_11, aI_194, sI_194, gR_189_13, aI_195, sI_195, gR_189_15, aI_196, sI_196, gR_189_17, aI_197, sI_197, gR_189_18, aI_198, sI_198, gR_189_19, aI_199, sI_199, gR_189_20, aI_200, sI_200, gR_189_23, aI_201, gR_189_24, aI_202, sI_202, gR_189_25, aI_203, sI_203, gR_189_29, aI_204, sI_204, gR_189_32, aI_205, sI_205, gR_189_35, aI_206, sI_206, pZ_189, gL_189, pL_189]
    refine W_bH (W_imp (d_takesN _ _ b3) ?_)
    rintro ⟨x4, _⟩ ⟨z4, l4, rfl, a4, b4⟩
    have h9 := b4.1
    simp (disch := first | assumption | omega) only [↓b_hid, bH_some, ↓hid_W, W_some, I3_a, I3_s, I3_m, I3_n, I3_l, I3_lt, I3_le, I3_e, I3_dv, I3_rm, I3_mx, I3_mn, I3_ab, cI, bI_0, bI_1, rZ_b, up_same, up_row, up_col, xr_some, LQ_r, LQ_l, Int.sub_self, Int.add_zero, Int.zero_add, Int.sub_zero, Int.neg_neg, not_true_eq_false, not_false_eq_true, Int.add_sub_cancel, ↓ite_iH, iH_t, iH_f, bH_iH, ↓bH_bind, xr_iH, ↓xr_bind, W_iH, WI_t, WI_f, gI_189, pI_189, iO_189, gR_189_0, aI_190, sI_190, gR_189_1, aI_191, sI_191, gR_189_3, aI_192, gR_189_10, aI_193, sI_193, gR_189_11, aI_194, sI_194, gR_189_13, aI_195, sI_195, gR_189_15, aI_196, sI_196, gR_189_17, aI_197, sI_197, gR_189_18, aI_198, sI_198, gR_189_19, aI_199, sI_199, gR_189_20, aI_200, sI_200, gR_189_23, aI_201, gR_189_24, aI_202, sI_202, gR_189_25, aI_203, sI_203, gR_189_29, aI_204, sI_204, gR_189_32, aI_205, sI_205, gR_189_35, aI_206, sI_206, pZ_189, gL_189, pL_189, h9, iH_pos, iH_neg, WI_pos, WI_neg]
    exact ⟨z4, l4, rfl, FrI_t hF (FrI_M (FrM_t hF1 (FrM_t a2 (FrM_t a3 a4)))), Or.inl ⟨_, rfl, b4⟩⟩
end
