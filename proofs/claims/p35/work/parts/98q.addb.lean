/-! addButton(): both sides. -/
theorem addB_hi {σ : Int → Int} {x y : Int} (h : 0 ≤ σ 58 ∧ σ 58 < 12) : ∀ j : Int, j < 3 ∨ 83 ≤ j → addB σ x y j = σ j := fun j hj => addB_o (by omega) (by omega) (by omega)
def A_addB (σ : Int → Int) (q c : Int) : Int := if 0 ≤ q ∧ q < σ 3 then (if 0 ≤ c ∧ c < pw (Fσ σ q.toNat 6) then (if fBσ σ q (idn (Fσ σ q.toNat) c) = -9 then (if σ 58 < 12 then σ 58 else -3) else -2) else -1) else -1
def G_addB (σ : Int → Int) (q c : Int) : Prop := (0 ≤ q ∧ q < σ 3) ∧ (0 ≤ c ∧ c < pw (Fσ σ q.toNat 6)) ∧ fBσ σ q (idn (Fσ σ q.toNat) c) = -9 ∧ σ 58 < 12
set_option maxHeartbeats 4000000 in
theorem x_addButton {q : Int} (hq : -2147483648 ≤ q ∧ q < 2147483648) {c : Int} (hc : -2147483648 ≤ c ∧ c < 2147483648) : CC (f_X11_addButton 0 (I3 q) (I3 c)) (fun σ => A_addB σ q c) (fun σ => G_addB σ q c) (fun σ => addB σ q (idn (Fσ σ q.toNat) c)) := by
  intro p z l σ n h hp hV hS h0 h6 hH
  dsimp only
  have hb := hp.1 0 (by omega)
  have hTb := isTb_B hb
  obtain ⟨⟨e1, e4⟩, v3, v58⟩ := c_tb hV hS
  unfold f_X11_addButton A_addB G_addB
  have gh := g_hasP (p := p) (z := z) (l := l) (i := q) hTb (by omega) (by omega) hq.1 hq.2
  rw [e1] at gh
  by_cases h1 : 0 ≤ q ∧ q < σ 3
  case neg =>
    rw [bI_f h1] at gh
    simp only [if_neg h1]
    simp (disch := first | assumption | omega) only [↓b_hid, bH_some, ↓hid_W, W_some, I3_a, I3_s, I3_m, I3_n, I3_l, I3_lt, I3_le, I3_e, I3_dv, I3_rm, I3_mx, I3_mn, I3_ab, cI, bI_0, bI_1, rZ_b, up_same, up_row, up_col, xr_some, LQ_r, LQ_l, Int.sub_self, Int.add_zero, Int.zero_add, Int.sub_zero, Int.neg_neg, not_true_eq_false, not_false_eq_true, Int.add_sub_cancel, ↓ite_iH, iH_t, iH_f, bH_iH, ↓bH_bind, xr_iH, ↓xr_bind, W_iH, WI_t, WI_f, aR_34, aR_19, sR_19, gR_0_0, pR_0, gI_0, pI_0, iO_0, gR_0_1, gR_0_3, gR_0_4, gR_0_5, gR_0_6, gR_0_7, gR_0_8, gR_0_9, gR_0_10, gR_0_11, gI_B, pI_B, iO_B, gR_B0, gR_B1, aR_B, iO_Tb, gh, iH_pos, iH_neg, WI_pos, WI_neg]
    exact ⟨p, z, l, rfl, Or.inr ⟨fun hg => h1 hg.1, rfl, FrX_r z⟩⟩
  rw [bI_t h1] at gh
  obtain ⟨c1, c2, c3⟩ := c_pr (q := q.toNat) hV hS (by omega)
  have hP := isP_T hTb (i := q.toNat) (by omega)
  have gA := g_pAt (p := p) (z := z) (l := l) (i := q) hTb (by omega) (by omega)
  have p6 := c2.2.2.2.2.2.1
  have e6 : z (p 0 + 1 + 4 + q.toNat) 6 = Fσ σ q.toNat 6 := c1 6 (by decide) (by decide)
  have gC := g_hasC (p := p) (z := z) (l := l) (c := c) hP (by omega) (by omega) hc.1 hc.2
  rw [e6] at gC
  by_cases h3 : 0 ≤ c ∧ c < pw (Fσ σ q.toNat 6)
  case neg =>
    rw [bI_f h3] at gC
    simp only [if_pos h1, if_neg h3]
    generalize p 0 + 1 + 4 + q.toNat = Q0 at *
    simp (disch := first | assumption | omega) only [↓b_hid, bH_some, ↓hid_W, W_some, I3_a, I3_s, I3_m, I3_n, I3_l, I3_lt, I3_le, I3_e, I3_dv, I3_rm, I3_mx, I3_mn, I3_ab, cI, bI_0, bI_1, rZ_b, up_same, up_row, up_col, xr_some, LQ_r, LQ_l, Int.sub_self, Int.add_zero, Int.zero_add, Int.sub_zero, Int.neg_neg, not_true_eq_false, not_false_eq_true, Int.add_sub_cancel, ↓ite_iH, iH_t, iH_f, bH_iH, ↓bH_bind, xr_iH, ↓xr_bind, W_iH, WI_t, WI_f, aR_34, aR_19, sR_19, gR_0_0, pR_0, gI_0, pI_0, iO_0, gR_0_1, gR_0_3, gR_0_4, gR_0_5, gR_0_6, gR_0_7, gR_0_8, gR_0_9, gR_0_10, gR_0_11, gI_B, pI_B, iO_B, gR_B0, gR_B1, aR_B, iO_Tb, gh, gA, iO_P, gC, iH_pos, iH_neg, WI_pos, WI_neg]
    exact ⟨p, z, l, rfl, Or.inr ⟨fun hg => h3 hg.2.1, rfl, FrX_r z⟩⟩
  rw [bI_t h3] at gC
  have gi := c_idn (p := p) (z := z) (l := l) (x := q) (c := c) hb hV hS h1.1 h1.2 h3.1
  have hir := idn_r (f := Fσ σ q.toNat) h3.1
  have hpw := pw_r (k := Fσ σ q.toNat 6) (by omega) (by omega)
  generalize hid : idn (Fσ σ q.toNat) c = y at *
  have gF := c_findB (p := p) (z := z) (l := l) (x := q) (y := y) hb hV hS (by omega) (by omega) (by omega) (by omega)
  have hfr := fBσ_r hV q y
  simp only [if_pos h1, if_pos h3]
  by_cases h5 : fBσ σ q y = -9
  case neg =>
    simp only [if_neg h5]
    generalize p 0 + 1 + 4 + q.toNat = Q0 at *
    simp (disch := first | assumption | omega) only [↓b_hid, bH_some, ↓hid_W, W_some, I3_a, I3_s, I3_m, I3_n, I3_l, I3_lt, I3_le, I3_e, I3_dv, I3_rm, I3_mx, I3_mn, I3_ab, cI, bI_0, bI_1, rZ_b, up_same, up_row, up_col, xr_some, LQ_r, LQ_l, Int.sub_self, Int.add_zero, Int.zero_add, Int.sub_zero, Int.neg_neg, not_true_eq_false, not_false_eq_true, Int.add_sub_cancel, ↓ite_iH, iH_t, iH_f, bH_iH, ↓bH_bind, xr_iH, ↓xr_bind, W_iH, WI_t, WI_f, aR_34, aR_19, sR_19, gR_0_0, pR_0, gI_0, pI_0, iO_0, gR_0_1, gR_0_3, gR_0_4, gR_0_5, gR_0_6, gR_0_7, gR_0_8, gR_0_9, gR_0_10, gR_0_11, gI_B, pI_B, iO_B, gR_B0, gR_B1, aR_B, iO_Tb, gh, gA, iO_P, gC, gi, gF, iH_pos, iH_neg, WI_pos, WI_neg]
    exact ⟨p, z, l, rfl, Or.inr ⟨fun hg => h5 hg.2.2.1, rfl, FrX_r z⟩⟩
  simp only [if_pos h5]
  rw [h5] at gF
  have gb := g_bfull (p := p) (z := z) (l := l) (t := p 0 + 1) hTb (by omega) (by omega)
  rw [e4] at gb
  by_cases h7 : σ 58 < 12
  · rw [bI_f (by omega)] at gb
    simp only [if_pos h7]
    generalize p 0 + 1 + 4 + q.toNat = Q0 at *
    simp (disch := first | assumption | omega) only [↓b_hid, bH_some, ↓hid_W, W_some, I3_a, I3_s, I3_m, I3_n, I3_l, I3_lt, I3_le, I3_e, I3_dv, I3_rm, I3_mx, I3_mn, I3_ab, cI, bI_0, bI_1, rZ_b, up_same, up_row, up_col, xr_some, LQ_r, LQ_l, Int.sub_self, Int.add_zero, Int.zero_add, Int.sub_zero, Int.neg_neg, not_true_eq_false, not_false_eq_true, Int.add_sub_cancel, ↓ite_iH, iH_t, iH_f, bH_iH, ↓bH_bind, xr_iH, ↓xr_bind, W_iH, WI_t, WI_f, aR_34, aR_19, sR_19, gR_0_0, pR_0, gI_0, pI_0, iO_0, gR_0_1, gR_0_3, gR_0_4, gR_0_5, gR_0_6, gR_0_7, gR_0_8, gR_0_9, gR_0_10, gR_0_11, gI_B, pI_B, iO_B, gR_B0, gR_B1, aR_B, iO_Tb, gh, gA, iO_P, gC, gi, gF, gb, iO_0, iH_pos, iH_neg, WI_pos, WI_neg]
    refine W_bH (W_imp (c_save hp hV hS h0 h6 hH) ?_)
    rintro _ ⟨p', z', rfl, a0, a1, a2⟩
    have hST := a1.2.1
    have hb' := a1.1.1 0 (by omega)
    rw [a0] at hST hb'
    have f4 : z' (p 0 + 1) 4 = σ 58 := hST.2.1.2.1
    have gN := g_newB (p := p') (z := z') (l := l) (t := p 0 + 1) (x := q) (y := y) hTb (by omega) (by omega)
    rw [f4] at gN
    generalize hz5 : up (up (up z' (p 0 + 1) 4 (σ 58 + 1)) (p 0 + 1 + 2) (σ 58) q) (p 0 + 1 + 3) (σ 58) y = z5 at gN
    simp (disch := first | assumption | omega) only [↓b_hid, bH_some, ↓hid_W, W_some, I3_a, I3_s, I3_m, I3_n, I3_l, I3_lt, I3_le, I3_e, I3_dv, I3_rm, I3_mx, I3_mn, I3_ab, cI, bI_0, bI_1, rZ_b, up_same, up_row, up_col, xr_some, LQ_r, LQ_l, Int.sub_self, Int.add_zero, Int.zero_add, Int.sub_zero, Int.neg_neg, not_true_eq_false, not_false_eq_true, Int.add_sub_cancel, ↓ite_iH, iH_t, iH_f, bH_iH, ↓bH_bind, xr_iH, ↓xr_bind, W_iH, WI_t, WI_f, iO_Tb, gN]
    have hrow : ∀ c, c ≠ p 0 + 1 → c ≠ p 0 + 1 + 2 → c ≠ p 0 + 1 + 3 → z5 c = z' c := fun c c0 c1 c2 => by rw [← hz5, up_row c2, up_row c1, up_row c0]
    refine ⟨p', z5, l, rfl, Or.inl ⟨⟨h1, h3, h5, h7⟩, CX_mod ⟨h0, h6⟩ a1 (fun c hc _ => hrow c (by omega) (by omega) (by omega)) ?_⟩⟩
    rw [a0]
    refine St_tb hST hV (fun c hc hc' => hrow c (by omega) (by omega) (by omega)) (Nat.le_refl _) ?_ (addB_hi ⟨v58.1, h7⟩)
    refine Tb_addB v3 v58.1 hST.2.1 ?_ ?_ (fun i hi => ?_) (fun i hi => ?_) ?_ ?_ (fun q' hq' => hrow _ (by omega) (by omega) (by omega))
    · rw [← hz5, up_row (by omega), up_row (by omega), up_col (by decide)]
    · rw [← hz5, up_row (by omega), up_row (by omega), up_same]
    · rw [← hz5, up_row (by omega), up_col hi, up_row (by omega)]
    · rw [← hz5, up_col hi, up_row (by omega), up_row (by omega)]
    · rw [← hz5, up_row (by omega), up_same]
    · rw [← hz5, up_same]
  · rw [bI_t (by omega)] at gb
    simp only [if_neg h7]
    generalize p 0 + 1 + 4 + q.toNat = Q0 at *
    simp (disch := first | assumption | omega) only [↓b_hid, bH_some, ↓hid_W, W_some, I3_a, I3_s, I3_m, I3_n, I3_l, I3_lt, I3_le, I3_e, I3_dv, I3_rm, I3_mx, I3_mn, I3_ab, cI, bI_0, bI_1, rZ_b, up_same, up_row, up_col, xr_some, LQ_r, LQ_l, Int.sub_self, Int.add_zero, Int.zero_add, Int.sub_zero, Int.neg_neg, not_true_eq_false, not_false_eq_true, Int.add_sub_cancel, ↓ite_iH, iH_t, iH_f, bH_iH, ↓bH_bind, xr_iH, ↓xr_bind, W_iH, WI_t, WI_f, aR_34, aR_19, sR_19, gR_0_0, pR_0, gI_0, pI_0, iO_0, gR_0_1, gR_0_3, gR_0_4, gR_0_5, gR_0_6, gR_0_7, gR_0_8, gR_0_9, gR_0_10, gR_0_11, gI_B, pI_B, iO_B, gR_B0, gR_B1, aR_B, iO_Tb, gh, gA, iO_P, gC, gi, gF, gb, iH_pos, iH_neg, WI_pos, WI_neg]
    exact ⟨p, z, l, rfl, Or.inr ⟨fun hg => h7 hg.2.2.2, rfl, FrX_r z⟩⟩
