/-! The class reads a protocol, a button, a table. -/
section
variable {p : Nat → Nat} {z l : Nat → Int → Int}
theorem tkE_b {T : Tx} {q : Int} (hT : Tg T) (h0 : 0 ≤ q) (h1 : q ≤ T.1) : 0 ≤ tkE T q ∧ tkE T q ≤ T.1 := by
  have h2 := tkS_r hT h0 h1
  have h3 := tkE_r hT h0 h1
  omega
/-- rows that reading may change -/
def FrU (z z' : Nat → Int → Int) : Prop := (∀ k, k ≠ 20 → (k < 22 ∨ 32 ≤ k) → z' k = z k) ∧ z' 20 1 = z 20 1
theorem FrU_T {z z' : Nat → Int → Int} (h : FrT z z') : FrU z z' := ⟨fun k h1 _ => h.1 k h1, h.2⟩
theorem FrU_t {z z' z'' : Nat → Int → Int} (h : FrU z z') (h' : FrU z' z'') : FrU z z'' := ⟨fun k h1 h2 => (h'.1 k h1 h2).trans (h.1 k h1 h2), h'.2.trans h.2⟩
theorem CtB_U {z z' : Nat → Int → Int} {T : Tx} (h : FrU z z') (hC : CtB z T) : CtB z' T := ⟨h.2.trans hC.1, by rw [h.1 21 (by decide) (by decide)]; exact hC.2⟩
/-- what reading answers -/
def QR (p : Nat → Nat) (l : Nat → Int → Int) (T : Tx) (z : Nat → Int → Int) (R : RT) (r : Int32 × MS) : Prop := ∃ v z', r = (I3 v, M p z' l) ∧ FrU z z' ∧ ((∃ e, R = .inl e ∧ v = 0 ∧ z' 20 3 = e) ∨ (∃ q' τ', R = .inr (q', τ') ∧ v = 1 ∧ z' 20 4 = q' ∧ (0 ≤ q' ∧ q' ≤ T.1) ∧ Tb z' 22 τ' ∧ V τ'))
theorem qr_no {T : Tx} {z1 : Nat → Int → Int} {e : Int} (hF : FrU z z1) (he : z1 20 3 = e) : QR p l T z (.inl e) (I3 0, M p z1 l) := ⟨0, z1, rfl, hF, Or.inl ⟨e, rfl, rfl, he⟩⟩
theorem Tb_F {z z' : Nat → Int → Int} {τ : Int → Int} (h : FrT z z') (hV : V τ) (hT : Tb z 22 τ) : Tb z' 22 τ := Tb_congr (fun k k0 k1 => h.1 k (by omega)) hV.2.2.2.1 hT
theorem c_rd {T : Tx} {q lo hi : Int} {kf : Int → Int → RT} {K : Int32 × MS → Option (Int32 × MS)} {Q : RT → Int32 × MS → Prop} (hT : Tg T) (hC : CtB z T) (h0 : 0 ≤ q) (h1 : q ≤ T.1) (h4 : z 20 4 = q) (hlo : -1000000 ≤ lo ∧ lo ≤ 1000000) (hhi : -1000000 ≤ hi ∧ hi ≤ 1000000) (hok : ∀ z', FrT z z' → CtB z' T → z' 20 4 = tkE T q → z' 20 3 = tkS T q → nOk T lo hi q → WP (K (I3 (tkV T q), M p z' l)) (Q (kf (tkV T q) (tkE T q)))) (hno : ∀ z', FrT z z' → z' 20 3 = tkS T q → WP (K (I3 (-9), M p z' l)) (Q (.inl (tkS T q)))) : WP (bH (f_X9_readNumber 20 (I3 lo) (I3 hi) (M p z l)) (@hidI _ ⟨K⟩)) (Q (rdT T lo hi q kf)) := by
  refine W_bH (W_imp (w_readN hT hC h0 h1 h4 hlo hhi) ?_)
  rintro _ ⟨v, z', rfl, hF, f3, f4, hv⟩
  rcases hv with ⟨hn, rfl⟩ | ⟨hn, rfl⟩
  · rw [rdT_t hn]; exact hok z' hF (CtB_F hF hC) f4 f3 hn
  · rw [rdT_f hn]; exact hno z' hF f3
set_option maxHeartbeats 8000000 in
theorem w_readP3 {T : Tx} {z0 : Nat → Int → Int} {τ : Int → Int} {q kd h s a b c : Int} (hT : Tg T) (hU : FrU z0 z) (hC : CtB z T) (h0 : 0 ≤ q) (h1 : q ≤ T.1) (h4 : z 20 4 = q) (hTb : Tb z 22 τ) (hV : V τ) (h6 : τ 3 < 6) (hk : 0 ≤ kd ∧ kd ≤ 2) (hh : 50 ≤ h ∧ h ≤ 20000) (hs : 50 ≤ s ∧ s ≤ 20000) (ha : 50 ≤ a ∧ a ≤ 20000) (hbr : 0 ≤ b ∧ b ≤ 20000) (hcr : 0 ≤ c ∧ c ≤ 20000) (hbc : kd = 2 ∧ b = 0 ∧ c = 0 ∨ kd ≠ 2 ∧ (50 ≤ b ∧ b ≤ 20000) ∧ (50 ≤ c ∧ c ≤ 20000) ∧ b ≠ c) : WP (f_X9_readProtocol_142 20 22 (I3 kd) (I3 h) (I3 s) (I3 a) (I3 b) (I3 c) (M p z l)) (QR p l T z0 (pP3 T τ kd h s a b c q)) := by
  have hl : lensOk kd h s a b c := ⟨hh, hs, ha, hbc⟩
  unfold f_X9_readProtocol_142 pP3
  have gl := fun μ => g_lens_t (μ := μ) (show -2147483648 ≤ kd ∧ kd < 2147483648 by omega) hl
  simp (disch := first | assumption | omega) only [↓b_hid, bH_some, ↓hid_W, W_some, I3_a, I3_s, I3_m, I3_n, I3_l, I3_lt, I3_le, I3_e, I3_dv, I3_rm, I3_mx, I3_mn, I3_ab, cI, bI_0, bI_1, rZ_b, up_same, up_row, up_col, xr_some, LQ_r, LQ_l, Int.sub_self, Int.add_zero, Int.zero_add, Int.sub_zero, Int.neg_neg, not_true_eq_false, not_false_eq_true, Int.add_sub_cancel, ↓ite_iH, iH_t, iH_f, bH_iH, ↓bH_bind, xr_iH, ↓xr_bind, W_iH, WI_t, WI_f, gI_20, pI_20, iO_20, gR_20_0, aI_21, gl, iH_pos, iH_neg, WI_pos, WI_neg]
  have b0 := tkE_b hT h0 h1
  refine c_rd (Q := QR p l T z0) hT hC h0 h1 h4 (by decide) (by decide) (fun z1 hF1 hC1 k1 s1 n1 => ?_) (fun z1 hF1 k1 => ?_)
  case _ =>
    have n1' := n1.2
    have b1 := tkE_b hT b0.1 b0.2
    simp (disch := first | assumption | omega) only [↓b_hid, bH_some, ↓hid_W, W_some, I3_a, I3_s, I3_m, I3_n, I3_l, I3_lt, I3_le, I3_e, I3_dv, I3_rm, I3_mx, I3_mn, I3_ab, cI, bI_0, bI_1, rZ_b, up_same, up_row, up_col, xr_some, LQ_r, LQ_l, Int.sub_self, Int.add_zero, Int.zero_add, Int.sub_zero, Int.neg_neg, not_true_eq_false, not_false_eq_true, Int.add_sub_cancel, ↓ite_iH, iH_t, iH_f, bH_iH, ↓bH_bind, xr_iH, ↓xr_bind, W_iH, WI_t, WI_f, gI_20, pI_20, iO_20, gR_20_0, aI_21, iH_pos, iH_neg, WI_pos, WI_neg]
    refine c_rd (Q := QR p l T z0) hT hC1 b0.1 b0.2 k1 (by decide) (by decide) (fun z2 hF2 hC2 k2 s2 n2 => ?_) (fun z2 hF2 k2 => ?_)
    case _ =>
      have n2' := n2.2
      have b2 := tkE_b hT b1.1 b1.2
      unfold f_X9_readProtocol_196
      simp (disch := first | assumption | omega) only [↓b_hid, bH_some, ↓hid_W, W_some, I3_a, I3_s, I3_m, I3_n, I3_l, I3_lt, I3_le, I3_e, I3_dv, I3_rm, I3_mx, I3_mn, I3_ab, cI, bI_0, bI_1, rZ_b, up_same, up_row, up_col, xr_some, LQ_r, LQ_l, Int.sub_self, Int.add_zero, Int.zero_add, Int.sub_zero, Int.neg_neg, not_true_eq_false, not_false_eq_true, Int.add_sub_cancel, ↓ite_iH, iH_t, iH_f, bH_iH, ↓bH_bind, xr_iH, ↓xr_bind, W_iH, WI_t, WI_f, gI_20, pI_20, iO_20, gR_20_0, aI_21, iH_pos, iH_neg, WI_pos, WI_neg]
      refine c_rd (Q := QR p l T z0) hT hC2 b1.1 b1.2 k2 (by decide) (by decide) (fun z3 hF3 hC3 k3 s3 n3 => ?_) (fun z3 hF3 k3 => ?_)
      case _ =>
        have n3' := n3.2
        unfold f_X9_readProtocol_216
        simp (disch := first | assumption | omega) only [↓b_hid, bH_some, ↓hid_W, W_some, I3_a, I3_s, I3_m, I3_n, I3_l, I3_lt, I3_le, I3_e, I3_dv, I3_rm, I3_mx, I3_mn, I3_ab, cI, bI_0, bI_1, rZ_b, up_same, up_row, up_col, xr_some, LQ_r, LQ_l, Int.sub_self, Int.add_zero, Int.zero_add, Int.sub_zero, Int.neg_neg, not_true_eq_false, not_false_eq_true, Int.add_sub_cancel, ↓ite_iH, iH_t, iH_f, bH_iH, ↓bH_bind, xr_iH, ↓xr_bind, W_iH, WI_t, WI_f, gI_20, pI_20, iO_20, gR_20_0, aI_21, iH_pos, iH_neg, WI_pos, WI_neg]
        refine W_bH (W_imp (w_readE hT hC3 b2.1 b2.2 k3) ?_)
        rintro _ ⟨v, z4, rfl, hF4, f3, f4, hv⟩
        have hF04 : FrT z z4 := FrT_t hF1 (FrT_t hF2 (FrT_t hF3 hF4))
        have hTb4 : Tb z4 22 τ := Tb_F hF04 hV hTb
        rcases hv with ⟨hk3, rfl⟩ | ⟨hk3, rfl⟩
        · rw [if_pos hk3]
          have e1 : z4 22 1 = τ 3 := hTb4.1
          have h3 := hV.2.2.2.1
          have gN := g_newP (p := p) (z := z4) (l := l) (t := 22) (k := kd) (b := tkV T q) (o := tkV T (tkE T q)) (r := tkV T (tkE T (tkE T q))) isTb_22 (by omega) (by omega) (by omega) (by omega)
          rw [e1] at gN
          generalize hq : 22 + 4 + (τ 3).toNat = Q0 at gN
          have hP : isP Q0 := by rw [← hq]; exact isP_T isTb_22 (by omega)
          generalize hz5 : up (lensZ (shapeZ z4 Q0 kd (tkV T q) (tkV T (tkE T q)) (tkV T (tkE T (tkE T q)))) Q0 9000 4500 560 (if kd = 2 then 0 else 560) (if kd = 2 then 0 else 1690)) 22 1 (τ 3 + 1) = z5 at gN
          have gA := g_pAt (p := p) (z := z5) (l := l) (t := 22) (i := τ 3) isTb_22 (by omega) (by omega)
          rw [hq] at gA
          have gU := g_useLengths (p := p) (z := z5) (l := l) (h := h) (s := s) (a := a) (b := b) (c := c) hP
          have i8 : ∀ {α : Type} (z : Nat → Int → Int) (e : Option α), isO (M p z l) 8 22 e = e := fun z e => iO_Tb isTb_22 e
          simp (disch := first | assumption | omega) only [↓b_hid, bH_some, ↓hid_W, W_some, I3_a, I3_s, I3_m, I3_n, I3_l, I3_lt, I3_le, I3_e, I3_dv, I3_rm, I3_mx, I3_mn, I3_ab, cI, bI_0, bI_1, rZ_b, up_same, up_row, up_col, xr_some, LQ_r, LQ_l, Int.sub_self, Int.add_zero, Int.zero_add, Int.sub_zero, Int.neg_neg, not_true_eq_false, not_false_eq_true, Int.add_sub_cancel, ↓ite_iH, iH_t, iH_f, bH_iH, ↓bH_bind, xr_iH, ↓xr_bind, W_iH, WI_t, WI_f, gI_20, pI_20, iO_20, gR_20_0, aI_21, i8, gN, gA, iO_P, gU, iH_pos, iH_neg, WI_pos, WI_neg]
          refine ⟨1, _, rfl, ?_, Or.inr ⟨_, _, rfl, rfl, ?_, tkE_b hT b2.1 b2.2, ?_, ?_⟩⟩
          · refine FrU_t (FrU_t hU (FrU_T hF04)) ⟨fun k k0 k1 => ?_, ?_⟩
            · rw [lensZ_row (by omega), ← hz5, up_row (by omega), lensZ_row (by omega), shapeZ_row (by omega)]
            · rw [lensZ_row (by omega), ← hz5, up_row (by omega), lensZ_row (by omega), shapeZ_row (by omega)]
          · rw [lensZ_row (by omega), ← hz5, up_row (by omega), lensZ_row (by omega), shapeZ_row (by omega)]; exact f4
          · refine Tb_addP ⟨h3.1, h6⟩ hV.2.2.2.2.1.2 hTb4 ?_ ?_ ?_ ?_ (fun q' hq' => ?_) ?_
            · rw [lensZ_row (by omega), ← hz5, up_same]
            · rw [lensZ_row (by omega), ← hz5, up_col (by decide), lensZ_row (by omega), shapeZ_row (by omega)]
            · rw [lensZ_row (by omega), ← hz5, up_row (by omega), lensZ_row (by omega), shapeZ_row (by omega)]
            · rw [lensZ_row (by omega), ← hz5, up_row (by omega), lensZ_row (by omega), shapeZ_row (by omega)]
            · rw [lensZ_row (by omega), ← hz5, up_row (by omega), lensZ_row (by omega), shapeZ_row (by omega)]
            · rw [hq, ← hz5]
              unfold lensZ shapeZ
              refine ⟨?_, ?_, ?_, ?_, ?_, ?_, ?_, ?_, ?_⟩ <;> simp (disch := omega) only [up_row, up_col, up_same]
          · exact V_addP hV h6 hk n1' n2' n3' hh hs ha (by omega)
        · rw [if_neg hk3]
          simp (disch := first | assumption | omega) only [↓b_hid, bH_some, ↓hid_W, W_some, I3_a, I3_s, I3_m, I3_n, I3_l, I3_lt, I3_le, I3_e, I3_dv, I3_rm, I3_mx, I3_mn, I3_ab, cI, bI_0, bI_1, rZ_b, up_same, up_row, up_col, xr_some, LQ_r, LQ_l, Int.sub_self, Int.add_zero, Int.zero_add, Int.sub_zero, Int.neg_neg, not_true_eq_false, not_false_eq_true, Int.add_sub_cancel, ↓ite_iH, iH_t, iH_f, bH_iH, ↓bH_bind, xr_iH, ↓xr_bind, W_iH, WI_t, WI_f, iH_pos, iH_neg, WI_pos, WI_neg]
          exact qr_no (FrU_t hU (FrU_T hF04)) f3
      case _ =>
        simp (disch := first | assumption | omega) only [↓b_hid, bH_some, ↓hid_W, W_some, I3_a, I3_s, I3_m, I3_n, I3_l, I3_lt, I3_le, I3_e, I3_dv, I3_rm, I3_mx, I3_mn, I3_ab, cI, bI_0, bI_1, rZ_b, up_same, up_row, up_col, xr_some, LQ_r, LQ_l, Int.sub_self, Int.add_zero, Int.zero_add, Int.sub_zero, Int.neg_neg, not_true_eq_false, not_false_eq_true, Int.add_sub_cancel, ↓ite_iH, iH_t, iH_f, bH_iH, ↓bH_bind, xr_iH, ↓xr_bind, W_iH, WI_t, WI_f, fl216', iH_pos, iH_neg, WI_pos, WI_neg]
        exact qr_no (FrU_t hU (FrU_T (FrT_t hF1 (FrT_t hF2 hF3)))) k3
    case _ =>
      simp (disch := first | assumption | omega) only [↓b_hid, bH_some, ↓hid_W, W_some, I3_a, I3_s, I3_m, I3_n, I3_l, I3_lt, I3_le, I3_e, I3_dv, I3_rm, I3_mx, I3_mn, I3_ab, cI, bI_0, bI_1, rZ_b, up_same, up_row, up_col, xr_some, LQ_r, LQ_l, Int.sub_self, Int.add_zero, Int.zero_add, Int.sub_zero, Int.neg_neg, not_true_eq_false, not_false_eq_true, Int.add_sub_cancel, ↓ite_iH, iH_t, iH_f, bH_iH, ↓bH_bind, xr_iH, ↓xr_bind, W_iH, WI_t, WI_f, fl196, iH_pos, iH_neg, WI_pos, WI_neg]
      exact qr_no (FrU_t hU (FrU_T (FrT_t hF1 hF2))) k2
  case _ =>
    unfold f_X9_readProtocol_196
    simp (disch := first | assumption | omega) only [↓b_hid, bH_some, ↓hid_W, W_some, I3_a, I3_s, I3_m, I3_n, I3_l, I3_lt, I3_le, I3_e, I3_dv, I3_rm, I3_mx, I3_mn, I3_ab, cI, bI_0, bI_1, rZ_b, up_same, up_row, up_col, xr_some, LQ_r, LQ_l, Int.sub_self, Int.add_zero, Int.zero_add, Int.sub_zero, Int.neg_neg, not_true_eq_false, not_false_eq_true, Int.add_sub_cancel, ↓ite_iH, iH_t, iH_f, bH_iH, ↓bH_bind, xr_iH, ↓xr_bind, W_iH, WI_t, WI_f, fl216', iH_pos, iH_neg, WI_pos, WI_neg]
    exact qr_no (FrU_t hU (FrU_T hF1)) k1
set_option maxHeartbeats 8000000 in
theorem w_readP2 {T : Tx} {z0 : Nat → Int → Int} {τ : Int → Int} {q kd h s a lo hi : Int} (hT : Tg T) (hU : FrU z0 z) (hC : CtB z T) (h0 : 0 ≤ q) (h1 : q ≤ T.1) (h4 : z 20 4 = q) (hTb : Tb z 22 τ) (hV : V τ) (h6 : τ 3 < 6) (hk : 0 ≤ kd ∧ kd ≤ 2) (hh : 50 ≤ h ∧ h ≤ 20000) (hs : 50 ≤ s ∧ s ≤ 20000) (ha : 50 ≤ a ∧ a ≤ 20000) (hlo : lo = if kd = 2 then 0 else 50) (hhi : hi = if kd = 2 then 0 else 20000) : WP (f_X9_readProtocol_98 20 22 (I3 kd) (I3 h) (I3 s) (I3 a) (I3 lo) (I3 hi) (M p z l)) (QR p l T z0 (pP2 T τ kd h s a q)) := by
  unfold f_X9_readProtocol_98 pP2
  rw [← hlo, ← hhi]
  have hb0 : 0 ≤ lo ∧ lo ≤ 50 ∧ 0 ≤ hi ∧ hi ≤ 20000 ∧ (kd = 2 → lo = 0 ∧ hi = 0) ∧ (kd ≠ 2 → lo = 50) := by
    by_cases h2 : kd = 2
    · rw [if_pos h2] at hlo hhi; omega
    · rw [if_neg h2] at hlo hhi; omega
  have hlor : -1000000 ≤ lo ∧ lo ≤ 1000000 := by omega
  have hhir : -1000000 ≤ hi ∧ hi ≤ 1000000 := by omega
  clear hlo hhi
  simp (disch := first | assumption | omega) only [↓b_hid, bH_some, ↓hid_W, W_some, I3_a, I3_s, I3_m, I3_n, I3_l, I3_lt, I3_le, I3_e, I3_dv, I3_rm, I3_mx, I3_mn, I3_ab, cI, bI_0, bI_1, rZ_b, up_same, up_row, up_col, xr_some, LQ_r, LQ_l, Int.sub_self, Int.add_zero, Int.zero_add, Int.sub_zero, Int.neg_neg, not_true_eq_false, not_false_eq_true, Int.add_sub_cancel, ↓ite_iH, iH_t, iH_f, bH_iH, ↓bH_bind, xr_iH, ↓xr_bind, W_iH, WI_t, WI_f, gI_20, pI_20, iO_20, gR_20_0, aI_21, iH_pos, iH_neg, WI_pos, WI_neg]
  have b0 := tkE_b hT h0 h1
  refine c_rd (Q := QR p l T z0) hT hC h0 h1 h4 hlor hhir (fun z1 hF1 hC1 k1 s1 n1 => ?_) (fun z1 hF1 k1 => ?_)
  case _ =>
    have n1' := n1.2
    unfold f_X9_readProtocol_120
    simp (disch := first | assumption | omega) only [↓b_hid, bH_some, ↓hid_W, W_some, I3_a, I3_s, I3_m, I3_n, I3_l, I3_lt, I3_le, I3_e, I3_dv, I3_rm, I3_mx, I3_mn, I3_ab, cI, bI_0, bI_1, rZ_b, up_same, up_row, up_col, xr_some, LQ_r, LQ_l, Int.sub_self, Int.add_zero, Int.zero_add, Int.sub_zero, Int.neg_neg, not_true_eq_false, not_false_eq_true, Int.add_sub_cancel, ↓ite_iH, iH_t, iH_f, bH_iH, ↓bH_bind, xr_iH, ↓xr_bind, W_iH, WI_t, WI_f, gI_20, pI_20, iO_20, gR_20_0, aI_21, iH_pos, iH_neg, WI_pos, WI_neg]
    refine c_rd (Q := QR p l T z0) hT hC1 b0.1 b0.2 k1 hlor hhir (fun z2 hF2 hC2 k2 s2 n2 => ?_) (fun z2 hF2 k2 => ?_)
    case _ =>
      have n2' := n2.2
      have b1 := tkE_b hT b0.1 b0.2
      have hF02 := FrT_t hF1 hF2
      simp only []
      by_cases heq : kd ≠ 2 ∧ tkV T (tkE T q) = tkV T q
      · rw [if_pos heq]
        have hn : ¬lensOk kd h s a (tkV T q) (tkV T (tkE T q)) := by
          rintro ⟨_, _, _, h5⟩; omega
        have gl := fun μ => g_lens_f (μ := μ) (k := kd) (h := h) (s := s) (a := a) (b := tkV T q) (c := tkV T (tkE T q)) (by omega) (by omega) (by omega) (by omega) (by omega) (by omega) hn
        unfold f_X9_readProtocol_142
        simp (disch := first | assumption | omega) only [↓b_hid, bH_some, ↓hid_W, W_some, I3_a, I3_s, I3_m, I3_n, I3_l, I3_lt, I3_le, I3_e, I3_dv, I3_rm, I3_mx, I3_mn, I3_ab, cI, bI_0, bI_1, rZ_b, up_same, up_row, up_col, xr_some, LQ_r, LQ_l, Int.sub_self, Int.add_zero, Int.zero_add, Int.sub_zero, Int.neg_neg, not_true_eq_false, not_false_eq_true, Int.add_sub_cancel, ↓ite_iH, iH_t, iH_f, bH_iH, ↓bH_bind, xr_iH, ↓xr_bind, W_iH, WI_t, WI_f, gI_20, pI_20, iO_20, gR_20_0, aI_21, gl, iH_pos, iH_neg, WI_pos, WI_neg]
        exact qr_no (FrU_t hU (FrU_T hF02)) s2
      · rw [if_neg heq]
        exact w_readP3 hT (FrU_t hU (FrU_T hF02)) hC2 b1.1 b1.2 k2 (Tb_F hF02 hV hTb) hV h6 hk hh hs ha (by omega) (by omega) (by omega)
    case _ =>
      simp (disch := first | assumption | omega) only [↓b_hid, bH_some, ↓hid_W, W_some, I3_a, I3_s, I3_m, I3_n, I3_l, I3_lt, I3_le, I3_e, I3_dv, I3_rm, I3_mx, I3_mn, I3_ab, cI, bI_0, bI_1, rZ_b, up_same, up_row, up_col, xr_some, LQ_r, LQ_l, Int.sub_self, Int.add_zero, Int.zero_add, Int.sub_zero, Int.neg_neg, not_true_eq_false, not_false_eq_true, Int.add_sub_cancel, ↓ite_iH, iH_t, iH_f, bH_iH, ↓bH_bind, xr_iH, ↓xr_bind, W_iH, WI_t, WI_f, fl142, iH_pos, iH_neg, WI_pos, WI_neg]
      exact qr_no (FrU_t hU (FrU_T (FrT_t hF1 hF2))) k2
  case _ =>
    simp (disch := first | assumption | omega) only [↓b_hid, bH_some, ↓hid_W, W_some, I3_a, I3_s, I3_m, I3_n, I3_l, I3_lt, I3_le, I3_e, I3_dv, I3_rm, I3_mx, I3_mn, I3_ab, cI, bI_0, bI_1, rZ_b, up_same, up_row, up_col, xr_some, LQ_r, LQ_l, Int.sub_self, Int.add_zero, Int.zero_add, Int.sub_zero, Int.neg_neg, not_true_eq_false, not_false_eq_true, Int.add_sub_cancel, ↓ite_iH, iH_t, iH_f, bH_iH, ↓bH_bind, xr_iH, ↓xr_bind, W_iH, WI_t, WI_f, fl120, iH_pos, iH_neg, WI_pos, WI_neg]
    exact qr_no (FrU_t hU (FrU_T hF1)) k1
set_option maxHeartbeats 8000000 in
theorem w_readPr {T : Tx} {z0 : Nat → Int → Int} {τ : Int → Int} {q : Int} (hT : Tg T) (hU : FrU z0 z) (hC : CtB z T) (h0 : 0 ≤ q) (h1 : q ≤ T.1) (h4 : z 20 4 = q) (hTb : Tb z 22 τ) (hV : V τ) (h6 : τ 3 < 6) : WP (f_X9_readProtocol 20 22 (M p z l)) (QR p l T z0 (pPr T τ q)) := by
  unfold f_X9_readProtocol pPr
  simp (disch := first | assumption | omega) only [↓b_hid, bH_some, ↓hid_W, W_some, I3_a, I3_s, I3_m, I3_n, I3_l, I3_lt, I3_le, I3_e, I3_dv, I3_rm, I3_mx, I3_mn, I3_ab, cI, bI_0, bI_1, rZ_b, up_same, up_row, up_col, xr_some, LQ_r, LQ_l, Int.sub_self, Int.add_zero, Int.zero_add, Int.sub_zero, Int.neg_neg, not_true_eq_false, not_false_eq_true, Int.add_sub_cancel, ↓ite_iH, iH_t, iH_f, bH_iH, ↓bH_bind, xr_iH, ↓xr_bind, W_iH, WI_t, WI_f, gI_20, pI_20, iO_20, gR_20_0, aI_21, iH_pos, iH_neg, WI_pos, WI_neg]
  have b0 := tkE_b hT h0 h1
  refine c_rd (Q := QR p l T z0) hT hC h0 h1 h4 (by decide) (by decide) (fun z1 hF1 hC1 k1 s1 n1 => ?_) (fun z1 hF1 k1 => ?_)
  case _ =>
    have n1' := n1.2
    have b1 := tkE_b hT b0.1 b0.2
    simp (disch := first | assumption | omega) only [↓b_hid, bH_some, ↓hid_W, W_some, I3_a, I3_s, I3_m, I3_n, I3_l, I3_lt, I3_le, I3_e, I3_dv, I3_rm, I3_mx, I3_mn, I3_ab, cI, bI_0, bI_1, rZ_b, up_same, up_row, up_col, xr_some, LQ_r, LQ_l, Int.sub_self, Int.add_zero, Int.zero_add, Int.sub_zero, Int.neg_neg, not_true_eq_false, not_false_eq_true, Int.add_sub_cancel, ↓ite_iH, iH_t, iH_f, bH_iH, ↓bH_bind, xr_iH, ↓xr_bind, W_iH, WI_t, WI_f, gI_20, pI_20, iO_20, gR_20_0, aI_21, iH_pos, iH_neg, WI_pos, WI_neg]
    refine c_rd (Q := QR p l T z0) hT hC1 b0.1 b0.2 k1 (by decide) (by decide) (fun z2 hF2 hC2 k2 s2 n2 => ?_) (fun z2 hF2 k2 => ?_)
    case _ =>
      have n2' := n2.2
      have b2 := tkE_b hT b1.1 b1.2
      unfold f_X9_readProtocol_27
      simp (disch := first | assumption | omega) only [↓b_hid, bH_some, ↓hid_W, W_some, I3_a, I3_s, I3_m, I3_n, I3_l, I3_lt, I3_le, I3_e, I3_dv, I3_rm, I3_mx, I3_mn, I3_ab, cI, bI_0, bI_1, rZ_b, up_same, up_row, up_col, xr_some, LQ_r, LQ_l, Int.sub_self, Int.add_zero, Int.zero_add, Int.sub_zero, Int.neg_neg, not_true_eq_false, not_false_eq_true, Int.add_sub_cancel, ↓ite_iH, iH_t, iH_f, bH_iH, ↓bH_bind, xr_iH, ↓xr_bind, W_iH, WI_t, WI_f, gI_20, pI_20, iO_20, gR_20_0, aI_21, iH_pos, iH_neg, WI_pos, WI_neg]
      refine c_rd (Q := QR p l T z0) hT hC2 b1.1 b1.2 k2 (by decide) (by decide) (fun z3 hF3 hC3 k3 s3 n3 => ?_) (fun z3 hF3 k3 => ?_)
      case _ =>
        have n3' := n3.2
        have b3 := tkE_b hT b2.1 b2.2
        unfold f_X9_readProtocol_48
        simp (disch := first | assumption | omega) only [↓b_hid, bH_some, ↓hid_W, W_some, I3_a, I3_s, I3_m, I3_n, I3_l, I3_lt, I3_le, I3_e, I3_dv, I3_rm, I3_mx, I3_mn, I3_ab, cI, bI_0, bI_1, rZ_b, up_same, up_row, up_col, xr_some, LQ_r, LQ_l, Int.sub_self, Int.add_zero, Int.zero_add, Int.sub_zero, Int.neg_neg, not_true_eq_false, not_false_eq_true, Int.add_sub_cancel, ↓ite_iH, iH_t, iH_f, bH_iH, ↓bH_bind, xr_iH, ↓xr_bind, W_iH, WI_t, WI_f, gI_20, pI_20, iO_20, gR_20_0, aI_21, iH_pos, iH_neg, WI_pos, WI_neg]
        refine c_rd (Q := QR p l T z0) hT hC3 b2.1 b2.2 k3 (by decide) (by decide) (fun z4 hF4 hC4 k4 s4 n4 => ?_) (fun z4 hF4 k4 => ?_)
        case _ =>
          have n4' := n4.2
          have hF04 := FrT_t hF1 (FrT_t hF2 (FrT_t hF3 hF4))
          have hP2 := w_readP2 (p := p) (l := l) (z0 := z0) (lo := if tkV T q = 2 then 0 else 50) (hi := if tkV T q = 2 then 0 else 20000) hT (FrU_t hU (FrU_T hF04)) hC4 b3.1 b3.2 k4 (Tb_F hF04 hV hTb) hV h6 n1' n2' n3' n4' rfl rfl
          by_cases hk2 : tkV T q = 2
          · rw [if_pos hk2, if_pos hk2] at hP2
            unfold f_X9_readProtocol_71 f_X9_readProtocol_84
            simp (disch := first | assumption | omega) only [↓b_hid, bH_some, ↓hid_W, W_some, I3_a, I3_s, I3_m, I3_n, I3_l, I3_lt, I3_le, I3_e, I3_dv, I3_rm, I3_mx, I3_mn, I3_ab, cI, bI_0, bI_1, rZ_b, up_same, up_row, up_col, xr_some, LQ_r, LQ_l, Int.sub_self, Int.add_zero, Int.zero_add, Int.sub_zero, Int.neg_neg, not_true_eq_false, not_false_eq_true, Int.add_sub_cancel, ↓ite_iH, iH_t, iH_f, bH_iH, ↓bH_bind, xr_iH, ↓xr_bind, W_iH, WI_t, WI_f, iH_pos, iH_neg, WI_pos, WI_neg]
            exact hP2
          · rw [if_neg hk2, if_neg hk2] at hP2
            unfold f_X9_readProtocol_71 f_X9_readProtocol_84
            simp (disch := first | assumption | omega) only [↓b_hid, bH_some, ↓hid_W, W_some, I3_a, I3_s, I3_m, I3_n, I3_l, I3_lt, I3_le, I3_e, I3_dv, I3_rm, I3_mx, I3_mn, I3_ab, cI, bI_0, bI_1, rZ_b, up_same, up_row, up_col, xr_some, LQ_r, LQ_l, Int.sub_self, Int.add_zero, Int.zero_add, Int.sub_zero, Int.neg_neg, not_true_eq_false, not_false_eq_true, Int.add_sub_cancel, ↓ite_iH, iH_t, iH_f, bH_iH, ↓bH_bind, xr_iH, ↓xr_bind, W_iH, WI_t, WI_f, iH_pos, iH_neg, WI_pos, WI_neg]
            exact hP2
        case _ =>
          simp (disch := first | assumption | omega) only [↓b_hid, bH_some, ↓hid_W, W_some, I3_a, I3_s, I3_m, I3_n, I3_l, I3_lt, I3_le, I3_e, I3_dv, I3_rm, I3_mx, I3_mn, I3_ab, cI, bI_0, bI_1, rZ_b, up_same, up_row, up_col, xr_some, LQ_r, LQ_l, Int.sub_self, Int.add_zero, Int.zero_add, Int.sub_zero, Int.neg_neg, not_true_eq_false, not_false_eq_true, Int.add_sub_cancel, ↓ite_iH, iH_t, iH_f, bH_iH, ↓bH_bind, xr_iH, ↓xr_bind, W_iH, WI_t, WI_f, fl71, iH_pos, iH_neg, WI_pos, WI_neg]
          exact qr_no (FrU_t hU (FrU_T (FrT_t hF1 (FrT_t hF2 (FrT_t hF3 hF4))))) k4
      case _ =>
        simp (disch := first | assumption | omega) only [↓b_hid, bH_some, ↓hid_W, W_some, I3_a, I3_s, I3_m, I3_n, I3_l, I3_lt, I3_le, I3_e, I3_dv, I3_rm, I3_mx, I3_mn, I3_ab, cI, bI_0, bI_1, rZ_b, up_same, up_row, up_col, xr_some, LQ_r, LQ_l, Int.sub_self, Int.add_zero, Int.zero_add, Int.sub_zero, Int.neg_neg, not_true_eq_false, not_false_eq_true, Int.add_sub_cancel, ↓ite_iH, iH_t, iH_f, bH_iH, ↓bH_bind, xr_iH, ↓xr_bind, W_iH, WI_t, WI_f, fl48, iH_pos, iH_neg, WI_pos, WI_neg]
        exact qr_no (FrU_t hU (FrU_T (FrT_t hF1 (FrT_t hF2 hF3)))) k3
    case _ =>
      simp (disch := first | assumption | omega) only [↓b_hid, bH_some, ↓hid_W, W_some, I3_a, I3_s, I3_m, I3_n, I3_l, I3_lt, I3_le, I3_e, I3_dv, I3_rm, I3_mx, I3_mn, I3_ab, cI, bI_0, bI_1, rZ_b, up_same, up_row, up_col, xr_some, LQ_r, LQ_l, Int.sub_self, Int.add_zero, Int.zero_add, Int.sub_zero, Int.neg_neg, not_true_eq_false, not_false_eq_true, Int.add_sub_cancel, ↓ite_iH, iH_t, iH_f, bH_iH, ↓bH_bind, xr_iH, ↓xr_bind, W_iH, WI_t, WI_f, fl27, iH_pos, iH_neg, WI_pos, WI_neg]
      exact qr_no (FrU_t hU (FrU_T (FrT_t hF1 hF2))) k2
  case _ =>
    simp (disch := first | assumption | omega) only [↓b_hid, bH_some, ↓hid_W, W_some, I3_a, I3_s, I3_m, I3_n, I3_l, I3_lt, I3_le, I3_e, I3_dv, I3_rm, I3_mx, I3_mn, I3_ab, cI, bI_0, bI_1, rZ_b, up_same, up_row, up_col, xr_some, LQ_r, LQ_l, Int.sub_self, Int.add_zero, Int.zero_add, Int.sub_zero, Int.neg_neg, not_true_eq_false, not_false_eq_true, Int.add_sub_cancel, ↓ite_iH, iH_t, iH_f, bH_iH, ↓bH_bind, xr_iH, ↓xr_bind, W_iH, WI_t, WI_f, fl27, iH_pos, iH_neg, WI_pos, WI_neg]
    exact qr_no (FrU_t hU (FrU_T hF1)) k1
set_option maxHeartbeats 8000000 in
theorem w_readBu {T : Tx} {z0 : Nat → Int → Int} {τ : Int → Int} {q : Int} (hT : Tg T) (hU : FrU z0 z) (hC : CtB z T) (h0 : 0 ≤ q) (h1 : q ≤ T.1) (h4 : z 20 4 = q) (hTb : Tb z 22 τ) (hV : V τ) (h12 : τ 58 < 12) : WP (f_X9_readButton 20 22 (M p z l)) (QR p l T z0 (pBu T τ q)) := by
  have h3 := hV.2.2.2.1
  have h58 := hV.2.2.2.2.1
  have e1 : z 22 1 = τ 3 := hTb.1
  have i8 : ∀ {α : Type} (z : Nat → Int → Int) (e : Option α), isO (M p z l) 8 22 e = e := fun z e => iO_Tb isTb_22 e
  have g8 : ∀ z : Nat → Int → Int, gI (M p z l) 8 22 1 = some (I3 (z 22 1)) := fun z => gI_Tb isTb_22 1
  unfold f_X9_readButton pBu
  simp (disch := first | assumption | omega) only [↓b_hid, bH_some, ↓hid_W, W_some, I3_a, I3_s, I3_m, I3_n, I3_l, I3_lt, I3_le, I3_e, I3_dv, I3_rm, I3_mx, I3_mn, I3_ab, cI, bI_0, bI_1, rZ_b, up_same, up_row, up_col, xr_some, LQ_r, LQ_l, Int.sub_self, Int.add_zero, Int.zero_add, Int.sub_zero, Int.neg_neg, not_true_eq_false, not_false_eq_true, Int.add_sub_cancel, ↓ite_iH, iH_t, iH_f, bH_iH, ↓bH_bind, xr_iH, ↓xr_bind, W_iH, WI_t, WI_f, gI_20, pI_20, iO_20, gR_20_0, aI_21, g8, e1, iH_pos, iH_neg, WI_pos, WI_neg]
  have b0 := tkE_b hT h0 h1
  refine c_rd (Q := QR p l T z0) hT hC h0 h1 h4 (by decide) (by omega) (fun z1 hF1 hC1 k1 s1 n1 => ?_) (fun z1 hF1 k1 => ?_)
  case _ =>
    have n1' := n1.2
    have b1 := tkE_b hT b0.1 b0.2
    have hTb1 : Tb z1 22 τ := Tb_F hF1 hV hTb
    generalize hx : tkV T q = x at *
    have hfx : ∀ f : Int, 0 ≤ f → f < 9 → z1 (22 + 4 + x.toNat) f = Fσ τ x.toNat f := fun f f0 f1 => hTb1.2.2.1 x.toNat (by omega) f f0 f1
    have hPV : PV (Fσ τ x.toNat) := hV.2.2.2.2.2.1 x.toNat (by omega)
    have hP := isP_T isTb_22 (i := x.toNat) (by omega)
    have gA := g_pAt (p := p) (z := z1) (l := l) (t := 22) (i := x) isTb_22 (by omega) (by omega)
    have h6 := hPV.2.2.2.2.2.1
    have e6 : z1 (22 + 4 + x.toNat) 6 = Fσ τ x.toNat 6 := hfx 6 (by decide) (by decide)
    have hpw := pw_r (k := Fσ τ x.toNat 6) (by omega) (by omega)
    generalize hQ : 22 + 4 + x.toNat = Q0 at *
    simp (disch := first | assumption | omega) only [↓b_hid, bH_some, ↓hid_W, W_some, I3_a, I3_s, I3_m, I3_n, I3_l, I3_lt, I3_le, I3_e, I3_dv, I3_rm, I3_mx, I3_mn, I3_ab, cI, bI_0, bI_1, rZ_b, up_same, up_row, up_col, xr_some, LQ_r, LQ_l, Int.sub_self, Int.add_zero, Int.zero_add, Int.sub_zero, Int.neg_neg, not_true_eq_false, not_false_eq_true, Int.add_sub_cancel, ↓ite_iH, iH_t, iH_f, bH_iH, ↓bH_bind, xr_iH, ↓xr_bind, W_iH, WI_t, WI_f, gI_20, pI_20, iO_20, gR_20_0, aI_21, i8, gA, gI_P, e6, shl1, iH_pos, iH_neg, WI_pos, WI_neg]
    refine c_rd (Q := QR p l T z0) hT hC1 b0.1 b0.2 k1 (by decide) (by omega) (fun z2 hF2 hC2 k2 s2 n2 => ?_) (fun z2 hF2 k2 => ?_)
    case _ =>
      have n2' := n2.2
      have b2 := tkE_b hT b1.1 b1.2
      have hF02 := FrT_t hF1 hF2
      have hTb2 : Tb z2 22 τ := Tb_F hF02 hV hTb
      generalize hc : tkV T (tkE T q) = c at *
      have hfx2 : ∀ f : Int, 0 ≤ f → f < 9 → z2 Q0 f = Fσ τ x.toNat f := fun f f0 f1 => by rw [hF2.1 Q0 (by omega)]; exact hfx f f0 f1
      have hPV2 : PV (z2 Q0) := PV_c (fun j j0 j1 => (hfx2 j j0 j1).symm) hPV
      have gi := g_idn (p := p) (z := z2) (l := l) (c := c) hP n2'.1 hPV2.2.2.2.2.2.1 hPV2.2.2.2.2.2.2.1 hPV2.2.2.2.2.2.2.2
      rw [idn_congr hfx2] at gi
      have hir := idn_r (f := Fσ τ x.toNat) n2'.1
      generalize hid : idn (Fσ τ x.toNat) c = y at *
      have hd : ∀ i, 0 ≤ i → i < z2 22 4 → 0 ≤ z2 (22 + 2) i ∧ z2 (22 + 2) i < 6 ∧ 0 ≤ z2 (22 + 3) i ∧ z2 (22 + 3) i < 65536 := by
        intro i i0 i1
        rw [hTb2.2.1] at i1
        have h1 := hTb2.2.2.2 i i0 i1
        have h2 := hV.2.2.2.2.2.2.1 i i0 i1
        omega
      have e58 : z2 22 4 = τ 58 := hTb2.2.1
      have gF := g_findB (p := p) (z := z2) (l := l) (t := 22) (x := x) (y := y) isTb_22 (by omega) (by omega) (by omega) (by omega) (by omega) (by omega) hd
      have hfb : fB (z2 (22 + 2)) (z2 (22 + 3)) x y (z2 22 4).toNat 0 = fBσ τ x y := by
        unfold fBσ
        rw [e58]
        exact fB_congr _ _ (fun k k0 k1 => hTb2.2.2.2 k k0 (by omega))
      rw [hfb] at gF
      have hfr := fBσ_r hV x y
      by_cases hb : fBσ τ x y = -9
      · rw [if_pos hb]
        rw [hb] at gF
        simp (disch := first | assumption | omega) only [↓b_hid, bH_some, ↓hid_W, W_some, I3_a, I3_s, I3_m, I3_n, I3_l, I3_lt, I3_le, I3_e, I3_dv, I3_rm, I3_mx, I3_mn, I3_ab, cI, bI_0, bI_1, rZ_b, up_same, up_row, up_col, xr_some, LQ_r, LQ_l, Int.sub_self, Int.add_zero, Int.zero_add, Int.sub_zero, Int.neg_neg, not_true_eq_false, not_false_eq_true, Int.add_sub_cancel, ↓ite_iH, iH_t, iH_f, bH_iH, ↓bH_bind, xr_iH, ↓xr_bind, W_iH, WI_t, WI_f, gI_20, pI_20, iO_20, gR_20_0, aI_21, i8, iO_P, gi, gF, iH_pos, iH_neg, WI_pos, WI_neg]
        refine W_bH (W_imp (w_readE hT hC2 b1.1 b1.2 k2) ?_)
        rintro _ ⟨v, z4, rfl, hF4, f3, f4, hv⟩
        have hF04 : FrT z z4 := FrT_t hF02 hF4
        have hTb4 : Tb z4 22 τ := Tb_F hF04 hV hTb
        have e584 : z4 22 4 = τ 58 := hTb4.2.1
        rcases hv with ⟨hk3, rfl⟩ | ⟨hk3, rfl⟩
        · rw [if_pos hk3]
          have gN := g_newB (p := p) (z := z4) (l := l) (t := 22) (x := x) (y := y) isTb_22 (by omega) (by omega)
          rw [e584] at gN
          simp (disch := first | assumption | omega) only [↓b_hid, bH_some, ↓hid_W, W_some, I3_a, I3_s, I3_m, I3_n, I3_l, I3_lt, I3_le, I3_e, I3_dv, I3_rm, I3_mx, I3_mn, I3_ab, cI, bI_0, bI_1, rZ_b, up_same, up_row, up_col, xr_some, LQ_r, LQ_l, Int.sub_self, Int.add_zero, Int.zero_add, Int.sub_zero, Int.neg_neg, not_true_eq_false, not_false_eq_true, Int.add_sub_cancel, ↓ite_iH, iH_t, iH_f, bH_iH, ↓bH_bind, xr_iH, ↓xr_bind, W_iH, WI_t, WI_f, gI_20, pI_20, iO_20, gR_20_0, aI_21, i8, gN, iH_pos, iH_neg, WI_pos, WI_neg]
          refine ⟨1, _, rfl, FrU_t (FrU_t hU (FrU_T hF04)) ⟨fun k k0 k1 => ?_, ?_⟩, Or.inr ⟨_, _, rfl, rfl, ?_, tkE_b hT b1.1 b1.2, ?_, ?_⟩⟩
          · rw [up_row (by omega), up_row (by omega), up_row (by omega)]
          · rw [up_row (by omega), up_row (by omega), up_row (by omega)]
          · rw [up_row (by omega), up_row (by omega), up_row (by omega)]; exact f4
          · refine Tb_addB h3 h58.1 hTb4 ?_ ?_ (fun i hi => ?_) (fun i hi => ?_) ?_ ?_ (fun q' hq' => ?_)
            · rw [up_row (by omega), up_row (by omega), up_col (by decide)]
            · rw [up_row (by omega), up_row (by omega), up_same]
            · rw [up_row (by omega), up_col hi, up_row (by omega)]
            · rw [up_col hi, up_row (by omega), up_row (by omega)]
            · rw [up_row (by omega), up_same]
            · rw [up_same]
            · rw [up_row (by omega), up_row (by omega), up_row (by omega)]
          · exact V_addB hV h12 (by omega) (by omega)
        · rw [if_neg hk3]
          simp (disch := first | assumption | omega) only [↓b_hid, bH_some, ↓hid_W, W_some, I3_a, I3_s, I3_m, I3_n, I3_l, I3_lt, I3_le, I3_e, I3_dv, I3_rm, I3_mx, I3_mn, I3_ab, cI, bI_0, bI_1, rZ_b, up_same, up_row, up_col, xr_some, LQ_r, LQ_l, Int.sub_self, Int.add_zero, Int.zero_add, Int.sub_zero, Int.neg_neg, not_true_eq_false, not_false_eq_true, Int.add_sub_cancel, ↓ite_iH, iH_t, iH_f, bH_iH, ↓bH_bind, xr_iH, ↓xr_bind, W_iH, WI_t, WI_f, iH_pos, iH_neg, WI_pos, WI_neg]
          exact qr_no (FrU_t hU (FrU_T hF04)) f3
      · rw [if_neg hb]
        simp (disch := first | assumption | omega) only [↓b_hid, bH_some, ↓hid_W, W_some, I3_a, I3_s, I3_m, I3_n, I3_l, I3_lt, I3_le, I3_e, I3_dv, I3_rm, I3_mx, I3_mn, I3_ab, cI, bI_0, bI_1, rZ_b, up_same, up_row, up_col, xr_some, LQ_r, LQ_l, Int.sub_self, Int.add_zero, Int.zero_add, Int.sub_zero, Int.neg_neg, not_true_eq_false, not_false_eq_true, Int.add_sub_cancel, ↓ite_iH, iH_t, iH_f, bH_iH, ↓bH_bind, xr_iH, ↓xr_bind, W_iH, WI_t, WI_f, gI_20, pI_20, iO_20, gR_20_0, aI_21, i8, iO_P, gi, gF, iH_pos, iH_neg, WI_pos, WI_neg]
        exact qr_no (FrU_t hU (FrU_T hF02)) s2
    case _ =>
      simp (disch := first | assumption | omega) only [↓b_hid, bH_some, ↓hid_W, W_some, I3_a, I3_s, I3_m, I3_n, I3_l, I3_lt, I3_le, I3_e, I3_dv, I3_rm, I3_mx, I3_mn, I3_ab, cI, bI_0, bI_1, rZ_b, up_same, up_row, up_col, xr_some, LQ_r, LQ_l, Int.sub_self, Int.add_zero, Int.zero_add, Int.sub_zero, Int.neg_neg, not_true_eq_false, not_false_eq_true, Int.add_sub_cancel, ↓ite_iH, iH_t, iH_f, bH_iH, ↓bH_bind, xr_iH, ↓xr_bind, W_iH, WI_t, WI_f, iH_pos, iH_neg, WI_pos, WI_neg]
      exact qr_no (FrU_t hU (FrU_T (FrT_t hF1 hF2))) k2
  case _ =>
    simp (disch := first | assumption | omega) only [↓b_hid, bH_some, ↓hid_W, W_some, I3_a, I3_s, I3_m, I3_n, I3_l, I3_lt, I3_le, I3_e, I3_dv, I3_rm, I3_mx, I3_mn, I3_ab, cI, bI_0, bI_1, rZ_b, up_same, up_row, up_col, xr_some, LQ_r, LQ_l, Int.sub_self, Int.add_zero, Int.zero_add, Int.sub_zero, Int.neg_neg, not_true_eq_false, not_false_eq_true, Int.add_sub_cancel, ↓ite_iH, iH_t, iH_f, bH_iH, ↓bH_bind, xr_iH, ↓xr_bind, W_iH, WI_t, WI_f, iH_pos, iH_neg, WI_pos, WI_neg]
    exact qr_no (FrU_t hU (FrU_T hF1)) k1
end
