/-! Calls that change the table: addProtocol(). -/
theorem St_tb {z z' : Nat → Int → Int} {b : Nat} {σ σ' : Int → Int} (hS : St z b σ) (hV : V σ) (hF : ∀ k, k ≤ b ∨ b + 11 ≤ k → k < b + 18 → z' k = z k) (hb : b ≤ b) (hT : Tb z' (b + 1) σ') (hO : ∀ j : Int, j < 3 ∨ 83 ≤ j → σ' j = σ j) : St z' b σ' := by
  obtain ⟨⟨s0, s1, s2⟩, sT, st⟩ := hS
  have e := hF b (by omega) (by omega)
  refine ⟨⟨by rw [e, hO 0 (by decide)]; exact s0, by rw [e, hO 1 (by decide)]; exact s1, by rw [e, hO 2 (by decide)]; exact s2⟩, hT, fun t ht => ?_⟩
  have h1 := Tr_congr (hF (b + 12 + 2 * t) (by omega) (by omega)) (hF (b + 12 + 2 * t + 1) (by omega) (by omega)) (st t ht)
  rw [hO (83 + t) (by omega)]
  refine ⟨h1.1, fun i i0 i1 => ?_⟩
  rw [h1.2 i i0 i1]
  exact (hO (86 + 200 * t + i) (by omega)).symm
theorem addP_hi {σ : Int → Int} {k b o r h s a x y : Int} (h3 : 0 ≤ σ 3 ∧ σ 3 < 6) : ∀ j : Int, j < 3 ∨ 83 ≤ j → addP σ k b o r h s a x y j = σ j := fun j hj => addP_o (by omega) (by omega)
set_option maxHeartbeats 4000000 in
theorem x_addProtocol {k : Int} (hk : -2147483648 ≤ k ∧ k < 2147483648) {bi : Int} (hbi : -2147483648 ≤ bi ∧ bi < 2147483648) {o : Int} (ho : -2147483648 ≤ o ∧ o < 2147483648) {r : Int} (hr : -2147483648 ≤ r ∧ r < 2147483648) : CC (f_X11_addProtocol 0 (I3 k) (I3 bi) (I3 o) (I3 r)) (fun σ => if 0 ≤ k ∧ k ≤ 2 then (if 1 ≤ bi ∧ bi ≤ 16 then (if 0 ≤ o ∧ o ≤ 1 then (if 0 ≤ r ∧ r ≤ 2 then (if σ 3 < 6 then σ 3 else -3) else -1) else -1) else -1) else -1) (fun σ => (0 ≤ k ∧ k ≤ 2) ∧ (1 ≤ bi ∧ bi ≤ 16) ∧ (0 ≤ o ∧ o ≤ 1) ∧ (0 ≤ r ∧ r ≤ 2) ∧ σ 3 < 6) (fun σ => addP σ k bi o r 9000 4500 560 (if k = 2 then 0 else 560) (if k = 2 then 0 else 1690)) := by
  intro p z l σ n h hp hV hS h0 h6 hH
  dsimp only
  unfold f_X11_addProtocol
  by_cases h1 : 0 ≤ k ∧ k ≤ 2
  case neg =>
    simp only [if_neg h1]
    simp (disch := first | assumption | omega) only [↓b_hid, bH_some, ↓hid_W, W_some, I3_a, I3_s, I3_m, I3_n, I3_l, I3_lt, I3_le, I3_e, I3_dv, I3_rm, I3_mx, I3_mn, I3_ab, cI, bI_0, bI_1, rZ_b, up_same, up_row, up_col, xr_some, LQ_r, LQ_l, Int.sub_self, Int.add_zero, Int.zero_add, Int.sub_zero, Int.neg_neg, not_true_eq_false, not_false_eq_true, Int.add_sub_cancel, ↓ite_iH, iH_t, iH_f, bH_iH, ↓bH_bind, xr_iH, ↓xr_bind, W_iH, WI_t, WI_f, g_inRange, bI_f, iH_pos, iH_neg, WI_pos, WI_neg]
    exact ⟨p, z, l, rfl, Or.inr ⟨fun hg => h1 hg.1, rfl, FrX_r z⟩⟩
  by_cases h3 : 1 ≤ bi ∧ bi ≤ 16
  case neg =>
    simp only [if_pos h1, if_neg h3]
    simp (disch := first | assumption | omega) only [↓b_hid, bH_some, ↓hid_W, W_some, I3_a, I3_s, I3_m, I3_n, I3_l, I3_lt, I3_le, I3_e, I3_dv, I3_rm, I3_mx, I3_mn, I3_ab, cI, bI_0, bI_1, rZ_b, up_same, up_row, up_col, xr_some, LQ_r, LQ_l, Int.sub_self, Int.add_zero, Int.zero_add, Int.sub_zero, Int.neg_neg, not_true_eq_false, not_false_eq_true, Int.add_sub_cancel, ↓ite_iH, iH_t, iH_f, bH_iH, ↓bH_bind, xr_iH, ↓xr_bind, W_iH, WI_t, WI_f, g_inRange, bI_t, bI_f, iH_pos, iH_neg, WI_pos, WI_neg]
    exact ⟨p, z, l, rfl, Or.inr ⟨fun hg => h3 hg.2.1, rfl, FrX_r z⟩⟩
  by_cases h4 : 0 ≤ o ∧ o ≤ 1
  case neg =>
    simp only [if_pos h1, if_pos h3, if_neg h4]
    simp (disch := first | assumption | omega) only [↓b_hid, bH_some, ↓hid_W, W_some, I3_a, I3_s, I3_m, I3_n, I3_l, I3_lt, I3_le, I3_e, I3_dv, I3_rm, I3_mx, I3_mn, I3_ab, cI, bI_0, bI_1, rZ_b, up_same, up_row, up_col, xr_some, LQ_r, LQ_l, Int.sub_self, Int.add_zero, Int.zero_add, Int.sub_zero, Int.neg_neg, not_true_eq_false, not_false_eq_true, Int.add_sub_cancel, ↓ite_iH, iH_t, iH_f, bH_iH, ↓bH_bind, xr_iH, ↓xr_bind, W_iH, WI_t, WI_f, g_inRange, bI_t, bI_f, iH_pos, iH_neg, WI_pos, WI_neg]
    exact ⟨p, z, l, rfl, Or.inr ⟨fun hg => h4 hg.2.2.1, rfl, FrX_r z⟩⟩
  by_cases h5 : 0 ≤ r ∧ r ≤ 2
  case neg =>
    simp only [if_pos h1, if_pos h3, if_pos h4, if_neg h5]
    simp (disch := first | assumption | omega) only [↓b_hid, bH_some, ↓hid_W, W_some, I3_a, I3_s, I3_m, I3_n, I3_l, I3_lt, I3_le, I3_e, I3_dv, I3_rm, I3_mx, I3_mn, I3_ab, cI, bI_0, bI_1, rZ_b, up_same, up_row, up_col, xr_some, LQ_r, LQ_l, Int.sub_self, Int.add_zero, Int.zero_add, Int.sub_zero, Int.neg_neg, not_true_eq_false, not_false_eq_true, Int.add_sub_cancel, ↓ite_iH, iH_t, iH_f, bH_iH, ↓bH_bind, xr_iH, ↓xr_bind, W_iH, WI_t, WI_f, g_inRange, bI_t, bI_f, iH_pos, iH_neg, WI_pos, WI_neg]
    exact ⟨p, z, l, rfl, Or.inr ⟨fun hg => h5 hg.2.2.2.1, rfl, FrX_r z⟩⟩
  simp only [if_pos h1, if_pos h3, if_pos h4, if_pos h5]
  have hb := hp.1 0 (by omega)
  have hTb := isTb_B hb
  obtain ⟨⟨e1, e4⟩, v3, v58⟩ := c_tb hV hS
  have gf := g_pfull (p := p) (z := z) (l := l) (t := p 0 + 1) hTb (by omega) (by omega)
  rw [e1] at gf
  by_cases h7 : σ 3 < 6
  · simp only [if_pos h7]
    rw [bI_f (by omega)] at gf
    simp (disch := first | assumption | omega) only [↓b_hid, bH_some, ↓hid_W, W_some, I3_a, I3_s, I3_m, I3_n, I3_l, I3_lt, I3_le, I3_e, I3_dv, I3_rm, I3_mx, I3_mn, I3_ab, cI, bI_0, bI_1, rZ_b, up_same, up_row, up_col, xr_some, LQ_r, LQ_l, Int.sub_self, Int.add_zero, Int.zero_add, Int.sub_zero, Int.neg_neg, not_true_eq_false, not_false_eq_true, Int.add_sub_cancel, ↓ite_iH, iH_t, iH_f, bH_iH, ↓bH_bind, xr_iH, ↓xr_bind, W_iH, WI_t, WI_f, aR_34, aR_19, sR_19, gR_0_0, pR_0, gI_0, pI_0, iO_0, gR_0_1, gR_0_3, gR_0_4, gR_0_5, gR_0_6, gR_0_7, gR_0_8, gR_0_9, gR_0_10, gR_0_11, gI_B, pI_B, iO_B, gR_B0, gR_B1, aR_B, g_inRange, bI_t, iO_Tb, gf, iO_0, iH_pos, iH_neg, WI_pos, WI_neg]
    refine W_bH (W_imp (c_save hp hV hS h0 h6 hH) ?_)
    rintro _ ⟨p', z', rfl, a0, a1, a2⟩
    have hb' := a1.1.1 0 (by omega)
    have hTb' := isTb_B hb'
    have hST := a1.2.1
    have f1 : z' (p' 0 + 1) 1 = σ 3 := hST.2.1.1
    have gN := g_newP (p := p') (z := z') (l := l) (t := p' 0 + 1) (k := k) (b := bi) (o := o) (r := r) hTb' (by omega) (by omega) hk.1 hk.2
    rw [f1] at gN
    generalize hq : p' 0 + 1 + 4 + (σ 3).toNat = Q0 at gN
    have hrB := isB_r hb'
    generalize hz5 : up (lensZ (shapeZ z' Q0 k bi o r) Q0 9000 4500 560 (if k = 2 then 0 else 560) (if k = 2 then 0 else 1690)) (p' 0 + 1) 1 (σ 3 + 1) = z5 at gN
    simp (disch := first | assumption | omega) only [↓b_hid, bH_some, ↓hid_W, W_some, I3_a, I3_s, I3_m, I3_n, I3_l, I3_lt, I3_le, I3_e, I3_dv, I3_rm, I3_mx, I3_mn, I3_ab, cI, bI_0, bI_1, rZ_b, up_same, up_row, up_col, xr_some, LQ_r, LQ_l, Int.sub_self, Int.add_zero, Int.zero_add, Int.sub_zero, Int.neg_neg, not_true_eq_false, not_false_eq_true, Int.add_sub_cancel, ↓ite_iH, iH_t, iH_f, bH_iH, ↓bH_bind, xr_iH, ↓xr_bind, W_iH, WI_t, WI_f, aR_34, aR_19, sR_19, gR_0_0, pR_0, gI_0, pI_0, iO_0, gR_0_1, gR_0_3, gR_0_4, gR_0_5, gR_0_6, gR_0_7, gR_0_8, gR_0_9, gR_0_10, gR_0_11, gI_B, pI_B, iO_B, gR_B0, gR_B1, aR_B, iO_Tb, gN]
    have hrow : ∀ c, c ≠ p' 0 + 1 → c ≠ Q0 → z5 c = z' c := fun c c0 c1 => by rw [← hz5, up_row c0, lensZ_row c1, shapeZ_row c1]
    refine ⟨p', z5, l, rfl, Or.inl ⟨⟨h1, h3, h4, h5, h7⟩, CX_mod ⟨h0, h6⟩ a1 (fun c hc _ => hrow c (by omega) (by omega)) (St_tb hST hV (fun c hc hc' => hrow c (by omega) (by omega)) (Nat.le_refl _) ?_ (addP_hi ⟨v3.1, h7⟩))⟩⟩
    refine Tb_addP ⟨v3.1, h7⟩ v58.2 hST.2.1 ?_ ?_ (hrow _ (by omega) (by omega)) (hrow _ (by omega) (by omega)) (fun q' hq' => hrow _ (by omega) (by omega)) ?_
    · rw [← hz5, up_same]
    · rw [← hz5, up_col (by decide), lensZ_row (by omega), shapeZ_row (by omega)]
    · rw [hq, ← hz5]
      unfold lensZ shapeZ
      refine ⟨?_, ?_, ?_, ?_, ?_, ?_, ?_, ?_, ?_⟩ <;> simp (disch := omega) only [up_row, up_col, up_same]
  · simp only [if_neg h7]
    rw [bI_t (by omega)] at gf
    simp (disch := first | assumption | omega) only [↓b_hid, bH_some, ↓hid_W, W_some, I3_a, I3_s, I3_m, I3_n, I3_l, I3_lt, I3_le, I3_e, I3_dv, I3_rm, I3_mx, I3_mn, I3_ab, cI, bI_0, bI_1, rZ_b, up_same, up_row, up_col, xr_some, LQ_r, LQ_l, Int.sub_self, Int.add_zero, Int.zero_add, Int.sub_zero, Int.neg_neg, not_true_eq_false, not_false_eq_true, Int.add_sub_cancel, ↓ite_iH, iH_t, iH_f, bH_iH, ↓bH_bind, xr_iH, ↓xr_bind, W_iH, WI_t, WI_f, aR_34, aR_19, sR_19, gR_0_0, pR_0, gI_0, pI_0, iO_0, gR_0_1, gR_0_3, gR_0_4, gR_0_5, gR_0_6, gR_0_7, gR_0_8, gR_0_9, gR_0_10, gR_0_11, gI_B, pI_B, iO_B, gR_B0, gR_B1, aR_B, g_inRange, bI_t, iO_Tb, gf, iH_pos, iH_neg, WI_pos, WI_neg]
    exact ⟨p, z, l, rfl, Or.inr ⟨fun hg => h7 hg.2.2.2.2, rfl, FrX_r z⟩⟩
