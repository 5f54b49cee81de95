/-! press(): both sides. -/
noncomputable def pT (σ : Int → Int) (s : Nat) : PT := psσ σ s (lnσ σ s)
noncomputable def A_press (σ : Int → Int) (s i w : Int) : Int := if 0 ≤ s ∧ s ≤ 2 then (if 0 ≤ i then (if 0 ≤ w ∧ w ≤ 3 then (if i < (pT σ s.toNat).1.2.2.2.2.1 then (if w = 0 then (pT σ s.toNat).2.1 i else if w = 1 then (pT σ s.toNat).2.2.1 i else if w = 2 then (pT σ s.toNat).2.2.2 i else fBσ σ ((pT σ s.toNat).2.1 i) (idn (Fσ σ ((pT σ s.toNat).2.1 i).toNat) ((pT σ s.toNat).2.2.1 i))) else -9) else -1) else -1) else -1
set_option maxHeartbeats 4000000 in
theorem x_press {s : Int} (hs : -2147483648 ≤ s ∧ s < 2147483648) {i : Int} (hi : -2147483648 ≤ i ∧ i < 2147483648) {w : Int} (hw : -2147483648 ≤ w ∧ w < 2147483648) : CQ (f_X11_press 0 (I3 s) (I3 i) (I3 w)) (fun σ => A_press σ s i w) := by
  intro p z l σ hb hV hS
  dsimp only
  unfold f_X11_press A_press
  by_cases h1 : 0 ≤ s ∧ s ≤ 2
  case neg =>
    rw [if_neg h1]
    simp (disch := first | assumption | omega) only [↓b_hid, bH_some, ↓hid_W, W_some, I3_a, I3_s, I3_m, I3_n, I3_l, I3_lt, I3_le, I3_e, I3_dv, I3_rm, I3_mx, I3_mn, I3_ab, cI, bI_0, bI_1, rZ_b, up_same, up_row, up_col, xr_some, LQ_r, LQ_l, Int.sub_self, Int.add_zero, Int.zero_add, Int.sub_zero, Int.neg_neg, not_true_eq_false, not_false_eq_true, Int.add_sub_cancel, ↓ite_iH, iH_t, iH_f, bH_iH, ↓bH_bind, xr_iH, ↓xr_bind, W_iH, WI_t, WI_f, g_isSlot, bI_f, iH_pos, iH_neg, WI_pos, WI_neg]
    exact ⟨z, l, rfl, FrX_r z⟩
  rw [if_pos h1]
  by_cases h2 : 0 ≤ i
  case neg =>
    rw [if_neg h2]
    simp (disch := first | assumption | omega) only [↓b_hid, bH_some, ↓hid_W, W_some, I3_a, I3_s, I3_m, I3_n, I3_l, I3_lt, I3_le, I3_e, I3_dv, I3_rm, I3_mx, I3_mn, I3_ab, cI, bI_0, bI_1, rZ_b, up_same, up_row, up_col, xr_some, LQ_r, LQ_l, Int.sub_self, Int.add_zero, Int.zero_add, Int.sub_zero, Int.neg_neg, not_true_eq_false, not_false_eq_true, Int.add_sub_cancel, ↓ite_iH, iH_t, iH_f, bH_iH, ↓bH_bind, xr_iH, ↓xr_bind, W_iH, WI_t, WI_f, g_isSlot, bI_t, iH_pos, iH_neg, WI_pos, WI_neg]
    exact ⟨z, l, rfl, FrX_r z⟩
  rw [if_pos h2]
  by_cases h3 : 0 ≤ w ∧ w ≤ 3
  case neg =>
    rw [if_neg h3]
    simp (disch := first | assumption | omega) only [↓b_hid, bH_some, ↓hid_W, W_some, I3_a, I3_s, I3_m, I3_n, I3_l, I3_lt, I3_le, I3_e, I3_dv, I3_rm, I3_mx, I3_mn, I3_ab, cI, bI_0, bI_1, rZ_b, up_same, up_row, up_col, xr_some, LQ_r, LQ_l, Int.sub_self, Int.add_zero, Int.zero_add, Int.sub_zero, Int.neg_neg, not_true_eq_false, not_false_eq_true, Int.add_sub_cancel, ↓ite_iH, iH_t, iH_f, bH_iH, ↓bH_bind, xr_iH, ↓xr_bind, W_iH, WI_t, WI_f, g_isSlot, bI_t, g_inRange, bI_f, iH_pos, iH_neg, WI_pos, WI_neg]
    exact ⟨z, l, rfl, FrX_r z⟩
  rw [if_pos h3]
  have hss : s = ((s.toNat : Nat) : Int) := by omega
  have hs3 : s.toNat < 3 := by omega
  simp (disch := first | assumption | omega) only [↓b_hid, bH_some, ↓hid_W, W_some, I3_a, I3_s, I3_m, I3_n, I3_l, I3_lt, I3_le, I3_e, I3_dv, I3_rm, I3_mx, I3_mn, I3_ab, cI, bI_0, bI_1, rZ_b, up_same, up_row, up_col, xr_some, LQ_r, LQ_l, Int.sub_self, Int.add_zero, Int.zero_add, Int.sub_zero, Int.neg_neg, not_true_eq_false, not_false_eq_true, Int.add_sub_cancel, ↓ite_iH, iH_t, iH_f, bH_iH, ↓bH_bind, xr_iH, ↓xr_bind, W_iH, WI_t, WI_f, aR_34, aR_19, sR_19, gR_0_0, pR_0, gI_0, pI_0, iO_0, gR_0_1, gR_0_3, gR_0_4, gR_0_5, gR_0_6, gR_0_7, gR_0_8, gR_0_9, gR_0_10, gR_0_11, g_isSlot, bI_t, g_inRange, gR_0_9, gR_0_7, gR_0_8, iO_43, iH_pos, iH_neg, WI_pos, WI_neg]
  generalize s.toNat = sn at *
  subst hss
  refine W_bH (W_imp (w_find hb hV hS hs3) ?_)
  rintro _ ⟨z1, l1, rfl, a1, a2, a3⟩
  have hX1 : FrX z z1 := fun k hk => a2 k (by omega)
  have hI := PI_f (s := sn) hV (lnσ σ sn)
  have a1 : Pc z1 (pT σ sn) := a1
  have hI : PI (nσ σ) (pT σ sn) (lnσ σ sn) := hI
  generalize pT σ sn = t at *
  obtain ⟨i1, i2, i3, i4, i5, i6, i7, i8⟩ := hI
  have e := a1.1
  by_cases h4 : i < t.1.2.2.2.2.1
  case neg =>
    rw [if_neg h4]
    simp (disch := first | assumption | omega) only [↓b_hid, bH_some, ↓hid_W, W_some, I3_a, I3_s, I3_m, I3_n, I3_l, I3_lt, I3_le, I3_e, I3_dv, I3_rm, I3_mx, I3_mn, I3_ab, cI, bI_0, bI_1, rZ_b, up_same, up_row, up_col, xr_some, LQ_r, LQ_l, Int.sub_self, Int.add_zero, Int.zero_add, Int.sub_zero, Int.neg_neg, not_true_eq_false, not_false_eq_true, Int.add_sub_cancel, ↓ite_iH, iH_t, iH_f, bH_iH, ↓bH_bind, xr_iH, ↓xr_bind, W_iH, WI_t, WI_f, aR_34, aR_19, sR_19, gR_0_0, pR_0, gI_0, pI_0, iO_0, gR_0_1, gR_0_3, gR_0_4, gR_0_5, gR_0_6, gR_0_7, gR_0_8, gR_0_9, gR_0_10, gR_0_11, gI_43, pI_43, iO_43, gR_43_0, aI_44, sI_44, gR_43_1, aI_45, sI_45, gR_43_2, aI_46, sI_46, pZ_43, gR_0_9, e, iH_pos, iH_neg, WI_pos, WI_neg]
    exact ⟨z1, l1, rfl, hX1⟩
  rw [if_pos h4]
  obtain ⟨p1, p2, p3⟩ := a1.2.2.2 i h2 h4
  obtain ⟨b1, b2, b3, b4⟩ := i8 i h2 h4
  by_cases w0 : w = 0
  · rw [if_pos w0]
    simp (disch := first | assumption | omega) only [↓b_hid, bH_some, ↓hid_W, W_some, I3_a, I3_s, I3_m, I3_n, I3_l, I3_lt, I3_le, I3_e, I3_dv, I3_rm, I3_mx, I3_mn, I3_ab, cI, bI_0, bI_1, rZ_b, up_same, up_row, up_col, xr_some, LQ_r, LQ_l, Int.sub_self, Int.add_zero, Int.zero_add, Int.sub_zero, Int.neg_neg, not_true_eq_false, not_false_eq_true, Int.add_sub_cancel, ↓ite_iH, iH_t, iH_f, bH_iH, ↓bH_bind, xr_iH, ↓xr_bind, W_iH, WI_t, WI_f, aR_34, aR_19, sR_19, gR_0_0, pR_0, gI_0, pI_0, iO_0, gR_0_1, gR_0_3, gR_0_4, gR_0_5, gR_0_6, gR_0_7, gR_0_8, gR_0_9, gR_0_10, gR_0_11, gI_43, pI_43, iO_43, gR_43_0, aI_44, sI_44, gR_43_1, aI_45, sI_45, gR_43_2, aI_46, sI_46, pZ_43, gR_0_9, e, p1, iH_pos, iH_neg, WI_pos, WI_neg]
    exact ⟨z1, l1, rfl, hX1⟩
  by_cases w1 : w = 1
  · rw [if_neg w0, if_pos w1]
    simp (disch := first | assumption | omega) only [↓b_hid, bH_some, ↓hid_W, W_some, I3_a, I3_s, I3_m, I3_n, I3_l, I3_lt, I3_le, I3_e, I3_dv, I3_rm, I3_mx, I3_mn, I3_ab, cI, bI_0, bI_1, rZ_b, up_same, up_row, up_col, xr_some, LQ_r, LQ_l, Int.sub_self, Int.add_zero, Int.zero_add, Int.sub_zero, Int.neg_neg, not_true_eq_false, not_false_eq_true, Int.add_sub_cancel, ↓ite_iH, iH_t, iH_f, bH_iH, ↓bH_bind, xr_iH, ↓xr_bind, W_iH, WI_t, WI_f, aR_34, aR_19, sR_19, gR_0_0, pR_0, gI_0, pI_0, iO_0, gR_0_1, gR_0_3, gR_0_4, gR_0_5, gR_0_6, gR_0_7, gR_0_8, gR_0_9, gR_0_10, gR_0_11, gI_43, pI_43, iO_43, gR_43_0, aI_44, sI_44, gR_43_1, aI_45, sI_45, gR_43_2, aI_46, sI_46, pZ_43, gR_0_9, e, p2, iH_pos, iH_neg, WI_pos, WI_neg]
    exact ⟨z1, l1, rfl, hX1⟩
  by_cases w2 : w = 2
  · rw [if_neg w0, if_neg w1, if_pos w2]
    simp (disch := first | assumption | omega) only [↓b_hid, bH_some, ↓hid_W, W_some, I3_a, I3_s, I3_m, I3_n, I3_l, I3_lt, I3_le, I3_e, I3_dv, I3_rm, I3_mx, I3_mn, I3_ab, cI, bI_0, bI_1, rZ_b, up_same, up_row, up_col, xr_some, LQ_r, LQ_l, Int.sub_self, Int.add_zero, Int.zero_add, Int.sub_zero, Int.neg_neg, not_true_eq_false, not_false_eq_true, Int.add_sub_cancel, ↓ite_iH, iH_t, iH_f, bH_iH, ↓bH_bind, xr_iH, ↓xr_bind, W_iH, WI_t, WI_f, aR_34, aR_19, sR_19, gR_0_0, pR_0, gI_0, pI_0, iO_0, gR_0_1, gR_0_3, gR_0_4, gR_0_5, gR_0_6, gR_0_7, gR_0_8, gR_0_9, gR_0_10, gR_0_11, gI_43, pI_43, iO_43, gR_43_0, aI_44, sI_44, gR_43_1, aI_45, sI_45, gR_43_2, aI_46, sI_46, pZ_43, gR_0_9, e, p3, iH_pos, iH_neg, WI_pos, WI_neg]
    exact ⟨z1, l1, rfl, hX1⟩
  rw [if_neg w0, if_neg w1, if_neg w2]
  have hVn := V_n hV
  have hTb := isTb_B hb
  have fb := c_findBO (p := p) (l := l1) (x := t.2.1 i) (c := t.2.2.1 i) hb hV (FrX_S hb hV hX1 hS) b1 (by omega) b3 (by omega)
  simp (disch := first | assumption | omega) only [↓b_hid, bH_some, ↓hid_W, W_some, I3_a, I3_s, I3_m, I3_n, I3_l, I3_lt, I3_le, I3_e, I3_dv, I3_rm, I3_mx, I3_mn, I3_ab, cI, bI_0, bI_1, rZ_b, up_same, up_row, up_col, xr_some, LQ_r, LQ_l, Int.sub_self, Int.add_zero, Int.zero_add, Int.sub_zero, Int.neg_neg, not_true_eq_false, not_false_eq_true, Int.add_sub_cancel, ↓ite_iH, iH_t, iH_f, bH_iH, ↓bH_bind, xr_iH, ↓xr_bind, W_iH, WI_t, WI_f, aR_34, aR_19, sR_19, gR_0_0, pR_0, gI_0, pI_0, iO_0, gR_0_1, gR_0_3, gR_0_4, gR_0_5, gR_0_6, gR_0_7, gR_0_8, gR_0_9, gR_0_10, gR_0_11, gI_B, pI_B, iO_B, gR_B0, gR_B1, aR_B, gI_43, pI_43, iO_43, gR_43_0, aI_44, sI_44, gR_43_1, aI_45, sI_45, gR_43_2, aI_46, sI_46, pZ_43, gR_0_9, e, p1, p2, iO_Tb, fb, iH_pos, iH_neg, WI_pos, WI_neg]
  exact ⟨z1, l1, rfl, hX1⟩
